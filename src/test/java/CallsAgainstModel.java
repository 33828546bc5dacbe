import java.util.List;

/**
 * Runs of up to 512 calls, in any order and mostly with numbers at some bound: each answer is held against the model's,
 * and behind each call that is refused all that can be asked of the object.
 */
public final class CallsAgainstModel {
    private static final int CALLS = 512;

    private final Programs random;
    private final BlameCourt court = new BlameCourt();
    private final Model model = new Model();
    private final String[] texts;
    private final StringBuilder log = new StringBuilder();
    private int calls = 0;

    private CallsAgainstModel(int seed) {
        random = new Programs(seed);
        String text = random.program();
        texts = new String[] {text, random.spoil(text), new Programs(seed + 1000000).program(), "part main()=1;", "",
            "part main()=print(1)", random.filling(), random.crowded()};
    }

    public static void main(String[] args) throws InterruptedException {
        int many = args.length > 0 ? Integer.parseInt(args[0]) : 600;
        int from = args.length > 1 ? Integer.parseInt(args[1]) : 1;
        Court.onDeepStack(() -> {
            for (int seed = from; seed < from + many && Court.wrongs() == 0; seed++) {
                new CallsAgainstModel(seed).calls();
            }
        });
        Court.close();
    }

    private void calls() {
        while (calls < CALLS && Court.wrongs() == 0) {
            if (!oneCall(random.below(24))) {
                compareAll();
            }
        }
        if (Court.wrongs() != 0) {
            System.out.println(log);
        }
    }

    private void due(String call, long want, long got) {
        calls++;
        log.append(call).append(" ").append(got).append('\n');
        Court.due("call " + calls + ", " + call, want, got);
    }

    private int edge() {
        List<Integer> edges = model.edges();
        return edges.get(random.below(edges.size()));
    }

    private int small() {
        return random.below(4) == 0 ? edge() : random.below(5) - 1;
    }

    private int fuel() {
        int which = random.below(4);
        return which == 0 ? edge() : which == 1 ? random.below(60) : 20000;
    }

    /** Whether the call was taken, that is, answered something but NONE or false. */
    private boolean oneCall(int which) {
        int a = small();
        int b = small();
        int got;
        switch (which) {
            case 0:
                return feedSome();
            case 1:
                int n = edge();
                got = court.end(n);
                due("end(" + n + ")", model.end(n), got);
                return got >= 0;
            case 2:
                got = court.read();
                due("read()", model.read(), got);
                return got >= 0;
            case 3:
            case 4:
                boolean told = random.below(2) == 0;
                boolean taken = court.tell(a, told);
                due("tell(" + a + ", " + told + ")", model.tell(a, told) ? 1 : 0, taken ? 1 : 0);
                return taken;
            case 5:
            case 6:
            case 7:
                got = court.judge();
                due("judge()", model.judge(), got);
                return got >= 0;
            case 8:
            case 9:
            case 10:
                int fuel = fuel();
                got = court.run(fuel);
                due("run(" + fuel + ")", model.run(fuel), got);
                return got >= 0;
            case 11:
            case 12:
                int untoldFuel = fuel();
                got = court.runUntold(untoldFuel);
                due("runUntold(" + untoldFuel + ")", model.runUntold(untoldFuel), got);
                return got >= 0;
            case 13:
            case 14:
                return putAndRead(texts[random.below(texts.length)]);
            default:
                ask(which - 15, a, b);
                return true;
        }
    }

    private void ask(int which, int a, int b) {
        int e = edge();
        switch (which) {
            case 0:
                due("fault(" + a + ")", model.fault(a), court.fault(a));
                break;
            case 1:
                due("guard(" + a + ", " + b + ")", model.guard(a, b), court.guard(a, b));
                break;
            case 2:
                due("guard(" + e + ", 0)", model.guard(e, 0), court.guard(e, 0));
                break;
            case 3:
                due("part(" + a + ", " + e + ")", model.part(a, e), court.part(a, e));
                break;
            case 4:
                due("told(" + e + ")", model.told(e), court.told(e));
                break;
            case 5:
                due("out(" + e + ")", model.out(e), court.out(e));
                break;
            case 6:
                due("asked(" + a + ", " + b + ")", model.asked(a, b), court.asked(a, b));
                break;
            case 7:
                due("part(" + e + ", " + b + ")", model.part(e, b), court.part(e, b));
                break;
            default:
                due("about(" + a + ")", model.about(a), court.about(a));
                break;
        }
    }

    private boolean feedSome() {
        boolean taken = true;
        for (int i = 1 + random.below(random.below(8) == 0 ? 152 : 3); i > 0 && calls < CALLS; i--) {
            int word = random.below(1 << 30) * 4 + random.below(4);
            int got = court.feed(word, 0x20202020, -1, 0x0a31ff00, ~word);
            due("feed(" + word + ", ..)", model.feed(word, 0x20202020, -1, 0x0a31ff00, ~word), got);
            taken = got >= 0;
        }
        return taken;
    }

    private boolean putAndRead(String text) {
        if (calls + text.length() / 20 + 3 > CALLS) {
            return true;
        }
        due("end(0)", model.end(0), court.end(0));
        for (int i = 0; i < text.length(); i += 20) {
            int[] w = Court.words(text, i);
            due("feed", model.feed(w), court.feed(w[0], w[1], w[2], w[3], w[4]));
        }
        due("end(" + text.length() + ")", model.end(text.length()), court.end(text.length()));
        int got = court.read();
        due("read() of " + text, model.read(), got);
        return got >= 0;
    }

    /** All that can be asked at no more calls than there are left. */
    private void compareAll() {
        for (int what = -1; what <= 4 && calls < CALLS; what++) {
            due("about(" + what + ")", model.about(what), court.about(what));
        }
        for (int what = -1; what <= 2 && calls < CALLS; what++) {
            due("fault(" + what + ")", model.fault(what), court.fault(what));
        }
        for (int what = -1; what <= 10 && calls < CALLS; what++) {
            due("told(" + what + ")", model.told(what), court.told(what));
        }
        int k = small();
        for (int what = -1; what <= 5 && calls < CALLS; what++) {
            due("part(" + k + ", " + what + ")", model.part(k, what), court.part(k, what));
            due("guard(" + k + ", " + what + ")", model.guard(k, what), court.guard(k, what));
            due("asked(" + k + ", " + what + ")", model.asked(k, what), court.asked(k, what));
            due("out(" + what + ")", model.out(what), court.out(what));
        }
    }
}
