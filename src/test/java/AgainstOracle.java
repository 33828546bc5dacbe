/** Programs made up from seeds, whole and spoilt, told and untold: each answer of the court is held against the oracle's. */
public final class AgainstOracle {
    private static final int[] seen = new int[8];
    private static final int[] faults = new int[10];
    private static int wrapped = 0;

    public static void main(String[] args) throws InterruptedException {
        int many = args.length > 0 ? Integer.parseInt(args[0]) : 6000;
        int from = args.length > 1 ? Integer.parseInt(args[1]) : 1;
        Court.onDeepStack(() -> {
            for (int seed = from; seed < from + many && Court.wrongs() < 20; seed++) {
                one(seed);
            }
        });
        System.out.println("runs by their ends: " + java.util.Arrays.toString(seen) + ", faults: "
            + java.util.Arrays.toString(faults) + ", runs with wrappings: " + wrapped);
        Court.close();
    }

    private static void one(int seed) {
        Programs programs = new Programs(seed);
        String text = programs.program();
        if (seed % 4 == 0) {
            text = programs.spoil(text);
        }
        switch (seed % 50) {
            case 7:
                text = programs.dense();
                break;
            case 1:
            case 13:
            case 26:
            case 39:
                text = programs.crowded();
                break;
            case 3:
            case 17:
            case 31:
                text = programs.filling();
                break;
            default:
                break;
        }
        if (text.length() > 3000) {
            return;
        }
        BlameCourt court = new BlameCourt();
        int got = Court.read(court, text);
        Oracle oracle;
        try {
            oracle = new Oracle(text);
        } catch (Oracle.Fault f) {
            faults[f.what]++;
            fault(text, "read", court, f, got);
            return;
        }
        Court.due("read of " + text, oracle.parts.size(), got);
        Court.due("fault(0) of " + text, 0, court.fault(0));
        for (int round = 0; round < 3; round++) {
            if (round > 0) {
                tell(programs, oracle, court);
            }
            judge(text, programs, oracle, court);
        }
    }

    private static void tell(Programs programs, Oracle oracle, BlameCourt court) {
        for (int k = 0; k < oracle.parts.size(); k++) {
            boolean told = programs.below(2) == 0;
            oracle.parts.get(k).told = told;
            court.tell(k, told);
        }
    }

    private static void fault(String text, String call, BlameCourt court, Oracle.Fault f, int got) {
        Court.due(call + " of " + text, -1, got);
        Court.due(call + ", fault(0) of " + text, f.what, court.fault(0));
        Court.due(call + ", fault(1) of " + text, f.place, court.fault(1));
    }

    private static void judge(String text, Programs programs, Oracle oracle, BlameCourt court) {
        int got = court.judge();
        try {
            oracle.judge();
        } catch (Oracle.Fault f) {
            faults[f.what]++;
            fault(text, "judge", court, f, got);
            run(text, oracle, court, false, 20000);
            return;
        }
        Court.due("judge of " + text, oracle.guards.size(), got);
        for (int i = 0; i < oracle.guards.size(); i++) {
            Oracle.Guard g = oracle.guards.get(i);
            int[] want = {g.place, g.giver, g.taker, g.from.code(), g.to.code()};
            for (int what = 0; what < 5; what++) {
                Court.due("guard(" + i + ", " + what + ") of " + text, want[what], court.guard(i, what));
            }
        }
        for (int k = 0; k < oracle.parts.size(); k++) {
            Oracle.Part p = oracle.parts.get(k);
            int[] want = {p.told ? 1 : 0, p.params.size(), p.name.length(), p.any ? 1 : 0, p.place};
            for (int what = 0; what < 5; what++) {
                Court.due("part(" + k + ", " + what + ") of " + text, want[what], court.part(k, what));
            }
        }
        run(text, oracle, court, true, 20000);
        run(text, oracle, court, true, programs.below(40));
        run(text, oracle, court, false, 20000);
        run(text, oracle, court, false, programs.below(40));
    }

    private static void run(String text, Oracle oracle, BlameCourt court, boolean guarded, int fuel) {
        Oracle.Told t = oracle.run(guarded, fuel);
        seen[t.end]++;
        wrapped += t.wraps > 0 ? 1 : 0;
        int got = guarded ? court.run(fuel) : court.runUntold(fuel);
        String call = (guarded ? "run(" : "runUntold(") + fuel + ")";
        Court.due(call + " of " + text, t.end, got);
        int[] want = {t.end, t.place, t.party, t.steps, t.sort, t.content, t.around, t.out.size(), t.wraps, t.rows};
        for (int what = 0; what < want.length; what++) {
            Court.due(call + ", told(" + what + ") of " + text, want[what], court.told(what));
        }
        for (int i = 0; i < t.out.size(); i++) {
            Court.due(call + ", out(" + i + ") of " + text, t.out.get(i), court.out(i));
        }
        for (int g = 0; g < oracle.parts.size(); g++) {
            for (int k = 0; k < oracle.parts.size(); k++) {
                Court.due(call + ", asked(" + g + ", " + k + ") of " + text, t.asked.getOrDefault(g * 100 + k, 0),
                    court.asked(g, k));
            }
        }
    }
}
