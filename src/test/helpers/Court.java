/** What the tests share: texts go to a court by its own calls, and answers are held against those that are due. */
final class Court {
    private static int wrong = 0;
    private static int checked = 0;

    private Court() {
    }

    static void due(String what, long want, long got) {
        checked++;
        if (got != want) {
            wrong++;
            if (wrong <= 50) {
                System.out.println(what + " answered " + got + ", due is " + want);
            }
        }
    }

    static void due(String what, boolean want, boolean got) {
        due(what, want ? 1 : 0, got ? 1 : 0);
    }

    static int wrongs() {
        return wrong;
    }

    /** Ends a test: with exit code 1, if an answer was not the one that is due. */
    static void close() {
        System.out.println(checked + " answers, " + wrong + " of them not as due");
        if (wrong != 0) {
            System.exit(1);
        }
    }

    private static int word(String text, int from) {
        int word = 0;
        for (int i = 0; i < 4; i++) {
            word = word << 8 | (from + i < text.length() ? text.charAt(from + i) & 255 : 32);
        }
        return word;
    }

    /** Puts a text on an empty tape: at most 2,980 bytes, or 3,000, or a multiple of 20 between. */
    static void put(BlameCourt court, String text) {
        for (int i = 0; i < text.length(); i += 20) {
            court.feed(word(text, i), word(text, i + 4), word(text, i + 8), word(text, i + 12), word(text, i + 16));
        }
        court.end(text.length());
    }

    static int read(BlameCourt court, String text) {
        put(court, text);
        return court.read();
    }

    static BlameCourt readNew(String text) {
        BlameCourt court = new BlameCourt();
        if (read(court, text) < 0) {
            due("read of " + text + " (fault " + court.fault(0) + " at " + court.fault(1) + ")", 1, 0);
        }
        return court;
    }

    static BlameCourt judged(String text) {
        BlameCourt court = readNew(text);
        if (court.judge() < 0) {
            due("judge of " + text + " (fault " + court.fault(0) + " at " + court.fault(1) + ")", 1, 0);
        }
        return court;
    }

    /** The fault of read(), at the place of a mark: a text with one @, which is taken out; no mark: at the length. */
    static void readFault(int fault, String marked) {
        int place = marked.indexOf('@');
        String text = marked.replace("@", "");
        BlameCourt court = new BlameCourt();
        due("read of " + marked, BlameCourt.NONE, read(court, text));
        due("fault(0) of " + marked, fault, court.fault(0));
        due("fault(1) of " + marked, place < 0 ? text.length() : place, court.fault(1));
    }

    /** The fault of judge(), at the mark. */
    static void judgeFault(int fault, String marked) {
        BlameCourt court = readNew(marked.replace("@", ""));
        due("judge of " + marked, BlameCourt.NONE, court.judge());
        due("fault(0) of " + marked, fault, court.fault(0));
        due("fault(1) of " + marked, marked.indexOf('@'), court.fault(1));
        due("about(2) of " + marked, 0, court.about(2));
    }

    /** How the judged run fails, at the mark, and whom it blames. */
    static BlameCourt fails(int how, int party, String marked) {
        BlameCourt court = judged(marked.replace("@", ""));
        failsSo(court, how, party, marked, court.run(20000));
        return court;
    }

    /** How the untold run fails, at the mark. */
    static BlameCourt failsUntold(int how, String marked) {
        BlameCourt court = readNew(marked.replace("@", ""));
        failsSo(court, how, BlameCourt.NONE, marked, court.runUntold(20000));
        return court;
    }

    private static void failsSo(BlameCourt court, int how, int party, String marked, int got) {
        due("run of " + marked, how, got);
        due("told(0) of " + marked, how, court.told(0));
        due("told(1) of " + marked, marked.indexOf('@'), court.told(1));
        due("told(2) of " + marked, party, court.told(2));
        for (int what = 4; what <= 6; what++) {
            due("told(" + what + ") of " + marked, BlameCourt.NONE, court.told(what));
        }
    }

    static String repeat(String text, int times) {
        return text.repeat(times);
    }
}
