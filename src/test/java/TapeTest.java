/** Promises 1, 2, 3 and 15, and what every call answers ahead of any read, judge or run. */
public final class TapeTest {
    private static final int NONE = BlameCourt.NONE;

    public static void main(String[] args) {
        newObject();
        feeding();
        ending();
        about();
        Court.close();
    }

    private static void newObject() {
        BlameCourt x = new BlameCourt();
        Court.due("NONE", -1, NONE);
        Court.due("about(0)", 0, x.about(0));
        Court.due("about(1)", 0, x.about(1));
        Court.due("about(2)", 0, x.about(2));
        Court.due("about(3)", NONE, x.about(3));
        for (int what = -2; what <= 12; what++) {
            Court.due("fault", NONE, x.fault(what));
            Court.due("guard", NONE, x.guard(0, what));
            Court.due("part", NONE, x.part(0, what));
            Court.due("told", NONE, x.told(what));
            Court.due("out", 0, x.out(what));
            Court.due("asked", NONE, x.asked(what, 0));
            Court.due("asked", NONE, x.asked(0, what));
            Court.due("tell", false, x.tell(what, true));
        }
        Court.due("part(0, 100)", NONE, x.part(0, 100));
        Court.due("run", NONE, x.run(10));
        Court.due("runUntold", NONE, x.runUntold(10));
        Court.due("told(0) behind a run that was none", NONE, x.told(0));
        Court.due("judge", NONE, x.judge());
        Court.due("fault(0) behind a judge that found no program", 0, x.fault(0));
        Court.due("fault(1) behind a judge that found no program", NONE, x.fault(1));
    }

    private static void feeding() {
        BlameCourt x = new BlameCourt();
        for (int i = 1; i <= 150; i++) {
            Court.due("feed " + i, 20 * i, x.feed(0x20202020, 0x0a0a0a0a, 0x20202020, 0x20202020, 0x20202020));
        }
        Court.due("feed beyond 3,000", NONE, x.feed(1, 2, 3, 4, 5));
        Court.due("about(0) then", 3000, x.about(0));
        Court.due("end(2981)", 2981, x.end(2981));
        Court.due("feed that would come to 3,001", NONE, x.feed(1, 2, 3, 4, 5));
        Court.due("about(0) then", 2981, x.about(0));
        Court.due("end(2980)", 2980, x.end(2980));
        Court.due("feed to 3,000", 3000, x.feed(0x20202020, 0x20202020, 0x20202020, 0x20202020, 0x20202020));
        Court.due("read of blanks", NONE, x.read());
        Court.due("its fault", 7, x.fault(0));
        Court.due("its place", 3000, x.fault(1));
        Court.due("the tape then", 0, x.about(0));
        // the highest byte of a comes first, the lowest of e last
        String text = "part main()=7;part q";
        x.feed(0x70617274, 0x206d6169, 0x6e28293d, 0x373b7061, 0x72742071);
        Court.due("read", NONE, x.read());
        Court.due("its fault", 1, x.fault(0));
        Court.due("its place", text.length(), x.fault(1));
        x.feed(0x70617274, 0x206d6169, 0x6e28293d, 0x373b7061, 0x72742071);
        Court.due("end(14)", 14, x.end(14));
        Court.due("read", 1, x.read());
        Court.due("bytes above 127", 20, x.feed(0x80818283, -1, -1, -1, 0xff));
        Court.due("read", NONE, x.read());
        Court.due("its place", 0, x.fault(1));
    }

    private static void ending() {
        BlameCourt x = new BlameCourt();
        Court.due("end(0) of none", 0, x.end(0));
        Court.due("end(1) of none", NONE, x.end(1));
        Court.due("end(-1)", NONE, x.end(-1));
        Court.due("end(least)", NONE, x.end(Integer.MIN_VALUE));
        Court.due("end(most)", NONE, x.end(Integer.MAX_VALUE));
        x.feed(0, 0, 0, 0, 0);
        Court.due("end(21)", NONE, x.end(21));
        Court.due("about(0)", 20, x.about(0));
        Court.due("end(20)", 20, x.end(20));
        Court.due("end(7)", 7, x.end(7));
        Court.due("about(0)", 7, x.about(0));
        Court.due("end(8)", NONE, x.end(8));
        Court.due("feed behind it", 27, x.feed(0, 0, 0, 0, 0));
        Court.due("end(0)", 0, x.end(0));
        Court.due("about(0)", 0, x.about(0));
    }

    private static void about() {
        BlameCourt x = Court.readNew("part f(x)=x;part main():int=f(1);");
        Court.due("about(1)", 2, x.about(1));
        Court.due("about(2)", 0, x.about(2));
        Court.due("about(3)", NONE, x.about(3));
        Court.due("judge", 2, x.judge());
        Court.due("about(2)", 1, x.about(2));
        Court.due("about(3)", 2, x.about(3));
        Court.due("about(4)", NONE, x.about(4));
        Court.due("about(-1)", NONE, x.about(-1));
        x.feed(0, 0, 0, 0, 0);
        Court.due("about(0)", 20, x.about(0));
        x.tell(0, true);
        Court.due("about(2) behind tell", 0, x.about(2));
        Court.due("about(3) behind tell", NONE, x.about(3));
        Court.due("about(1) behind tell", 2, x.about(1));
    }
}
