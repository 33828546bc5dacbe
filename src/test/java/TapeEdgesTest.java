/** Promises 1, 2, 3 and 15, sentence by sentence: the last that is taken, the first that is refused, and the state behind it. */
public final class TapeEdgesTest {
    private static final int NONE = BlameCourt.NONE;
    private static final int BLANKS = 0x20202020;
    private static final int NO_TOKENS = 0x23232323;
    private static final int[] EXTREMES = {Integer.MIN_VALUE, Integer.MIN_VALUE + 1, -3000, -2, -1};

    public static void main(String[] args) {
        newObjectRefuses();
        feedOrder();
        feedFull();
        endBounds();
        endCuts();
        aboutBounds();
        fiveHundredCalls();
        Court.close();
    }

    private static int blanks(BlameCourt x) {
        return x.feed(BLANKS, BLANKS, BLANKS, BLANKS, BLANKS);
    }

    private static BlameCourt withBlanks(int bytes) {
        BlameCourt x = new BlameCourt();
        for (int i = 0; i < (bytes + 19) / 20; i++) {
            blanks(x);
        }
        x.end(bytes);
        return x;
    }

    /** "An empty tape, no program, no run": what asks for one of these is refused, and none comes of that. */
    private static void newObjectRefuses() {
        BlameCourt x = new BlameCourt();
        Court.refused("end(1)", x, NONE, () -> x.end(1));
        Court.refused("tell(0, true)", x, 0, () -> x.tell(0, true) ? 1 : 0);
        Court.refused("tell(0, false)", x, 0, () -> x.tell(0, false) ? 1 : 0);
        Court.refused("run(0)", x, NONE, () -> x.run(0));
        Court.refused("run(20000)", x, NONE, () -> x.run(20000));
        Court.refused("runUntold(0)", x, NONE, () -> x.runUntold(0));
        Court.refused("runUntold(20000)", x, NONE, () -> x.runUntold(20000));
        Court.refused("end(0)", x, 0, () -> x.end(0));
        Court.due("fault(0) ahead of any", NONE, x.fault(0));
        Court.due("fault(1) ahead of any", NONE, x.fault(1));
        Court.due("read() of the empty tape", NONE, x.read());
        Court.due("its fault", 7, x.fault(0));
        Court.due("its place", 0, x.fault(1));
        Court.refused("run behind a read that failed", x, NONE, () -> x.run(10));
        Court.refused("runUntold behind a read that failed", x, NONE, () -> x.runUntold(10));
        Court.due("judge()", NONE, x.judge());
        Court.due("fault(0) of that judge", 0, x.fault(0));
        Court.due("fault(1) of that judge", NONE, x.fault(1));
        Court.due("about(1)", 0, x.about(1));
        Court.due("about(2)", 0, x.about(2));
        Court.due("about(3)", NONE, x.about(3));
    }

    /** "Twenty bytes come behind the tape, the highest of a first": a byte that is no token tells where it stands. */
    private static void feedOrder() {
        for (int at = 0; at < 40; at++) {
            BlameCourt x = new BlameCourt();
            for (int twenty = 0; twenty < 2; twenty++) {
                int[] words = {BLANKS, BLANKS, BLANKS, BLANKS, BLANKS};
                if (at / 20 == twenty) {
                    int shift = 24 - 8 * (at % 4);
                    words[at % 20 / 4] = BLANKS & ~(255 << shift) | 0x80 << shift;
                }
                Court.due("feed", 20 * twenty + 20, x.feed(words[0], words[1], words[2], words[3], words[4]));
            }
            Court.due("read", NONE, x.read());
            Court.due("the fault of byte " + at, 1, x.fault(0));
            Court.due("the place of byte " + at, at, x.fault(1));
        }
    }

    /** "NONE, and none come, if there would be more than 3,000." */
    private static void feedFull() {
        for (int had = 2975; had <= 3000; had++) {
            BlameCourt x = withBlanks(had);
            int want = had <= 2980 ? had + 20 : NONE;
            Court.due("feed behind " + had, want, blanks(x));
            Court.due("about(0) then", want == NONE ? had : want, x.about(0));
            Court.due("read", NONE, x.read());
            Court.due("fault(0)", 7, x.fault(0));
            Court.due("fault(1)", want == NONE ? had : want, x.fault(1));
            Court.due("feed behind none", 20, blanks(x));
        }
        BlameCourt x = withBlanks(2990);
        Court.refused("feed behind 2990", x, NONE, () -> x.feed(NO_TOKENS, NO_TOKENS, NO_TOKENS, NO_TOKENS, NO_TOKENS));
        Court.due("end(2991): none of its bytes came", NONE, x.end(2991));
        Court.due("end(2980)", 2980, x.end(2980));
        Court.due("feed behind 2980", 3000, blanks(x));
        Court.refused("feed behind 3000", x, NONE, () -> blanks(x));
        Court.due("read", NONE, x.read());
        Court.due("fault(0): not one of the bytes that were refused", 7, x.fault(0));
        Court.due("fault(1)", 3000, x.fault(1));
    }

    /** "NONE, and nothing is done, if it has not so many, or n is below 0." */
    private static void endBounds() {
        for (int has : new int[] {0, 1, 19, 20, 21, 2980, 2999, 3000}) {
            BlameCourt x = withBlanks(has);
            for (int n : new int[] {has + 1, has + 2, 3001, Integer.MAX_VALUE}) {
                Court.refused("end(" + n + ") of " + has, x, NONE, () -> x.end(n));
            }
            for (int n : EXTREMES) {
                Court.refused("end(" + n + ") of " + has, x, NONE, () -> x.end(n));
            }
            Court.refused("end of all", x, has, () -> x.end(has));
            Court.due("end of one less", Math.max(0, has - 1), x.end(Math.max(0, has - 1)));
            Court.due("about(0)", Math.max(0, has - 1), x.about(0));
            Court.due("end(0)", 0, x.end(0));
            Court.due("about(0)", 0, x.about(0));
            Court.due("end(1) then", NONE, x.end(1));
        }
    }

    /** "The tape has its first n bytes alone": the others are gone for good. */
    private static void endCuts() {
        String text = "part main()=1; #";
        BlameCourt x = new BlameCourt();
        for (int n = 0; n <= text.length(); n++) {
            Court.put(x, text);
            Court.due("end(" + n + ")", n, x.end(n));
            Court.due("read of " + n, n == 14 || n == 15 ? 1 : NONE, x.read());
            Court.due("fault(0) of " + n, n == 0 ? 7 : n < 14 || n > 15 ? 1 : 0, x.fault(0));
            // of part its first letters alone are a NAME, which can't stand there
            Court.due("fault(1) of " + n, n == 14 || n == 15 ? NONE : n == 16 ? 15 : n < 4 ? 0 : n, x.fault(1));
        }
        Court.put(x, text);
        x.end(14);
        Court.due("feed behind what is left", 34, blanks(x));
        Court.due("read: no # is left", 1, x.read());
        Court.due("a cut tape doesn't touch the program", 1, x.about(1));
        Court.put(x, "#");
        Court.due("end(0)", 0, x.end(0));
        Court.due("about(1)", 1, x.about(1));
        Court.due("runUntold", 0, x.runUntold(1));
    }

    /** "0 bytes of the tape, 1 PARTS, 2 whether the program is judged (1, 0), 3 its GUARDS (NONE if it isn't). NONE for others." */
    private static void aboutBounds() {
        BlameCourt x = new BlameCourt();
        abouts(x, 0, 0, 0, NONE);
        blanks(x);
        abouts(x, 20, 0, 0, NONE);
        x.end(0);
        Court.read(x, "part f(x)=x;part main():int=f(1);");
        abouts(x, 0, 2, 0, NONE);
        x.judge();
        abouts(x, 0, 2, 1, 2);
        blanks(x);
        abouts(x, 20, 2, 1, 2);
        x.read();
        abouts(x, 0, 2, 1, 2);
        x.run(100);
        abouts(x, 0, 2, 1, 2);
        x.tell(2, false);
        abouts(x, 0, 2, 1, 2);
        x.tell(1, true);
        abouts(x, 0, 2, 0, NONE);
        x.runUntold(100);
        abouts(x, 0, 2, 0, NONE);
        Court.read(x, "part main():int=1;");
        abouts(x, 0, 1, 0, NONE);
        x.judge();
        abouts(x, 0, 1, 1, 0);
        Court.read(x, "part main():int=true;");
        x.judge();
        abouts(x, 0, 1, 0, NONE);
    }

    private static void abouts(BlameCourt x, int bytes, int parts, int judged, int guards) {
        Court.due("about(0)", bytes, x.about(0));
        Court.due("about(1)", parts, x.about(1));
        Court.due("about(2)", judged, x.about(2));
        Court.due("about(3)", guards, x.about(3));
        for (int what : new int[] {Integer.MIN_VALUE, -2, -1, 4, 5, 100, Integer.MAX_VALUE}) {
            Court.due("about(" + what + ")", NONE, x.about(what));
        }
    }

    /** "An object is used for at most 512 calls": the last of them is answered as the first was. */
    private static void fiveHundredCalls() {
        String text = "part f(x)=x;part main():int=f(1);";
        BlameCourt x = new BlameCourt();
        int calls = 0;
        while (calls + 7 <= 512) {
            Court.put(x, text);
            Court.due("read", 2, x.read());
            Court.due("judge", 2, x.judge());
            Court.due("run", 0, x.run(20));
            Court.due("told(3)", 4, x.told(3));
            calls += 7;
        }
        while (calls < 512) {
            Court.due("asked(1, 0)", 1, x.asked(1, 0));
            calls++;
        }
    }
}
