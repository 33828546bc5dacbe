import java.util.ArrayList;
import java.util.List;
import java.util.function.IntSupplier;

/** What the tests share: texts go to a court by its own calls, and answers are held against those that are due. */
final class Court {
    private static int wrong = 0;
    private static int checked = 0;

    private Court() {
    }

    static void due(String what, long want, long got) {
        checked++;
        if (got != want) {
            wrong++;
            if (wrong <= 50) {
                System.out.println(what + " answered " + got + ", due is " + want);
            }
        }
    }

    static void due(String what, boolean want, boolean got) {
        due(what, want ? 1 : 0, got ? 1 : 0);
    }

    static int wrongs() {
        return wrong;
    }

    /** Ends a test: with exit code 1, if an answer was not the one that is due. */
    static void close() {
        System.out.println(checked + " answers, " + wrong + " of them not as due");
        if (wrong != 0) {
            System.exit(1);
        }
    }

    private static int word(String text, int from) {
        int word = 0;
        for (int i = 0; i < 4; i++) {
            word = word << 8 | (from + i < text.length() ? text.charAt(from + i) & 255 : 32);
        }
        return word;
    }

    /** The twenty bytes of a text from there on, with blanks behind its end, as feed takes them. */
    static int[] words(String text, int from) {
        int[] words = new int[5];
        for (int i = 0; i < 5; i++) {
            words[i] = word(text, from + 4 * i);
        }
        return words;
    }

    /** Puts a text on an empty tape: at most 3,000 bytes. */
    static void put(BlameCourt court, String text) {
        for (int i = 0; i < text.length(); i += 20) {
            int[] w = words(text, i);
            court.feed(w[0], w[1], w[2], w[3], w[4]);
        }
        court.end(text.length());
    }

    static int read(BlameCourt court, String text) {
        put(court, text);
        return court.read();
    }

    static BlameCourt readNew(String text) {
        BlameCourt court = new BlameCourt();
        if (read(court, text) < 0) {
            due("read of " + text + " (fault " + court.fault(0) + " at " + court.fault(1) + ")", 1, 0);
        }
        return court;
    }

    static BlameCourt judged(String text) {
        BlameCourt court = readNew(text);
        if (court.judge() < 0) {
            due("judge of " + text + " (fault " + court.fault(0) + " at " + court.fault(1) + ")", 1, 0);
        }
        return court;
    }

    /** A text that is judged and run with all the fuel, to an end that is due. */
    static BlameCourt judgedRun(String text, int end) {
        BlameCourt court = judged(text);
        due("run of " + text, end, court.run(20000));
        return court;
    }

    /** The fault of read(), at the place of a mark: a text with one @, which is taken out; no mark: at the length. */
    static void readFault(int fault, String marked) {
        int place = marked.indexOf('@');
        String text = marked.replace("@", "");
        BlameCourt court = new BlameCourt();
        due("read of " + marked, BlameCourt.NONE, read(court, text));
        due("fault(0) of " + marked, fault, court.fault(0));
        due("fault(1) of " + marked, place < 0 ? text.length() : place, court.fault(1));
    }

    /** The fault of judge(), at the mark. */
    static void judgeFault(int fault, String marked) {
        BlameCourt court = readNew(marked.replace("@", ""));
        due("judge of " + marked, BlameCourt.NONE, court.judge());
        due("fault(0) of " + marked, fault, court.fault(0));
        due("fault(1) of " + marked, marked.indexOf('@'), court.fault(1));
        due("about(2) of " + marked, 0, court.about(2));
    }

    /** How the judged run fails, at the mark, and whom it blames. */
    static BlameCourt fails(int how, int party, String marked) {
        BlameCourt court = judged(marked.replace("@", ""));
        failsSo(court, how, party, marked, court.run(20000));
        return court;
    }

    /** How the untold run fails, at the mark. */
    static BlameCourt failsUntold(int how, String marked) {
        BlameCourt court = readNew(marked.replace("@", ""));
        failsSo(court, how, BlameCourt.NONE, marked, court.runUntold(20000));
        return court;
    }

    private static void failsSo(BlameCourt court, int how, int party, String marked, int got) {
        due("run of " + marked, how, got);
        due("told(0) of " + marked, how, court.told(0));
        due("told(1) of " + marked, marked.indexOf('@'), court.told(1));
        due("told(2) of " + marked, party, court.told(2));
        for (int what = 4; what <= 6; what++) {
            due("told(" + what + ") of " + marked, BlameCourt.NONE, court.told(what));
        }
    }

    /** The oracle goes down as deep as a text and its calls go. */
    static void onDeepStack(Runnable work) throws InterruptedException {
        Thread thread = new Thread(null, work, "deep", 1L << 29);
        thread.setUncaughtExceptionHandler((t, thrown) -> {
            thrown.printStackTrace();
            System.exit(1);
        });
        thread.start();
        thread.join();
    }

    /** All that an object answers without being changed, but fault(): what is the same behind a call, that call left alone. */
    static List<Integer> state(BlameCourt court) {
        List<Integer> all = new ArrayList<>();
        for (int what = -1; what <= 10; what++) {
            all.add(court.about(what));
            all.add(court.told(what));
        }
        for (int k = 0; k < Math.min(court.about(1), 4); k++) {
            for (int what : new int[] {0, 1, 2, 3, 4, 100, 101, 107}) {
                all.add(court.part(k, what));
            }
            for (int taker = 0; taker < Math.min(court.about(1), 4); taker++) {
                all.add(court.asked(k, taker));
            }
        }
        for (int i = 0; i < Math.min(court.about(3), 6); i++) {
            for (int what = 0; what < 5; what++) {
                all.add(court.guard(i, what));
            }
        }
        for (int i = 0; i < 4; i++) {
            all.add(court.out(i));
        }
        return all;
    }

    /** A call that is refused: its answer, and that nothing is done by it. */
    static void refused(String what, BlameCourt court, int want, IntSupplier call) {
        List<Integer> before = state(court);
        int fault = court.fault(0);
        int place = court.fault(1);
        due(what, want, call.getAsInt());
        due(what + " left all as it was", true, before.equals(state(court)));
        due("fault(0) behind " + what, fault, court.fault(0));
        due("fault(1) behind " + what, place, court.fault(1));
    }

    /** A text that is refused, the tape being empty: its fault at the mark, and that all else stays. */
    static void refusedRead(BlameCourt court, int fault, String marked) {
        String text = marked.replace("@", "");
        List<Integer> before = state(court);
        due("read of " + marked, BlameCourt.NONE, read(court, text));
        due("what stays behind " + marked, true, before.equals(state(court)));
        due("fault(0) of " + marked, fault, court.fault(0));
        due("fault(1) of " + marked, marked.contains("@") ? marked.indexOf('@') : text.length(), court.fault(1));
    }

    static String repeat(String text, int times) {
        return text.repeat(times);
    }
}
