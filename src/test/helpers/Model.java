import java.util.ArrayList;
import java.util.List;

/** What an object must answer, call by call: its state in the plainest form, and the oracle for what a program does. */
final class Model {
    private static final int NONE = -1;

    private final StringBuilder tape = new StringBuilder();
    private Oracle program = null;
    private boolean judged = false;
    private Oracle.Told run = null;
    private boolean anyFault = false;
    private Oracle.Fault fault = null;

    int feed(int... words) {
        if (tape.length() > 2980) {
            return NONE;
        }
        for (int word : words) {
            for (int shift : new int[] {24, 16, 8, 0}) {
                tape.append((char) (word >>> shift & 255));
            }
        }
        return tape.length();
    }

    int end(int n) {
        if (n < 0 || n > tape.length()) {
            return NONE;
        }
        tape.setLength(n);
        return n;
    }

    int read() {
        String text = tape.toString();
        tape.setLength(0);
        anyFault = true;
        fault = null;
        try {
            program = new Oracle(text);
        } catch (Oracle.Fault f) {
            fault = f;
            return NONE;
        }
        judged = false;
        run = null;
        return parts();
    }

    int fault(int what) {
        if (!anyFault || what < 0 || what > 1) {
            return NONE;
        }
        if (fault == null) {
            return what == 0 ? 0 : NONE;
        }
        return what == 0 ? fault.what : fault.place;
    }

    boolean tell(int part, boolean told) {
        if (part < 0 || part >= parts()) {
            return false;
        }
        program.parts.get(part).told = told;
        judged = false;
        return true;
    }

    int judge() {
        anyFault = true;
        fault = null;
        judged = false;
        if (program == null) {
            return NONE;
        }
        try {
            program.judge();
        } catch (Oracle.Fault f) {
            fault = f;
            return NONE;
        }
        judged = true;
        return program.guards.size();
    }

    int guard(int i, int what) {
        if (!judged || i < 0 || i >= program.guards.size() || what < 0 || what > 4) {
            return NONE;
        }
        Oracle.Guard g = program.guards.get(i);
        return new int[] {g.place, g.giver, g.taker, g.from.code(), g.to.code()}[what];
    }

    int part(int k, int what) {
        if (k < 0 || k >= parts()) {
            return NONE;
        }
        Oracle.Part p = program.parts.get(k);
        if (what >= 100 && what < 100 + p.name.length()) {
            return p.name.charAt(what - 100);
        }
        if (what < 0 || what > 4) {
            return NONE;
        }
        return new int[] {p.told ? 1 : 0, p.params.size(), p.name.length(), judged ? (p.any ? 1 : 0) : NONE, p.place}[what];
    }

    int run(int fuel) {
        return judged ? runWith(true, fuel) : NONE;
    }

    int runUntold(int fuel) {
        return program != null ? runWith(false, fuel) : NONE;
    }

    private int runWith(boolean guarded, int fuel) {
        if (fuel < 0 || fuel > 20000) {
            return NONE;
        }
        run = program.run(guarded, fuel);
        return run.end;
    }

    int told(int what) {
        if (run == null || what < 0 || what > 9) {
            return NONE;
        }
        return new int[] {run.end, run.place, run.party, run.steps, run.sort, run.content, run.around, run.out.size(), run.wraps,
            run.rows}[what];
    }

    int out(int i) {
        return run == null || i < 0 || i >= run.out.size() ? 0 : run.out.get(i);
    }

    int asked(int giver, int taker) {
        if (run == null || giver < 0 || giver >= parts() || taker < 0 || taker >= parts()) {
            return NONE;
        }
        return run.asked.getOrDefault(giver * 100 + taker, 0);
    }

    int about(int what) {
        if (what < 0 || what > 3) {
            return NONE;
        }
        return new int[] {tape.length(), parts(), judged ? 1 : 0, judged ? program.guards.size() : NONE}[what];
    }

    private int parts() {
        return program == null ? 0 : program.parts.size();
    }

    /** Numbers at which an answer may change: the bounds of what there is now, and their neighbours. */
    List<Integer> edges() {
        List<Integer> edges = new ArrayList<>();
        int guards = judged ? program.guards.size() : 0;
        int outs = run == null ? 0 : run.out.size();
        int steps = run == null ? 0 : run.steps;
        for (int bound : new int[] {0, 4, 9, 40, 100, 108, 200, 3000, 20000, parts(), guards, outs, steps, tape.length()}) {
            edges.add(bound - 1);
            edges.add(bound);
            edges.add(bound + 1);
        }
        edges.add(Integer.MIN_VALUE);
        edges.add(Integer.MIN_VALUE + 100);
        edges.add(Integer.MAX_VALUE);
        return edges;
    }
}
