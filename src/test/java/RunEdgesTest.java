/** Terms III and promises 10 to 14, sentence by sentence: the last that is taken, the first that fails, and what is told then. */
public final class RunEdgesTest {
    private static final int NONE = BlameCourt.NONE;
    private static final int[] NUMBERS = {Integer.MIN_VALUE, Integer.MIN_VALUE + 1, -1000, -7, -2, -1, 0, 1, 2, 7, 1000, 46341, 65536,
        Integer.MAX_VALUE - 1, Integer.MAX_VALUE};

    public static void main(String[] args) {
        places();
        placesOfWrapped();
        lengthsOfNew();
        numbersGoRound();
        truths();
        divisions();
        blames();
        wrongs();
        askings();
        callsDeep();
        placesFull();
        thingsFull();
        thousandWrappings();
        wrappingsFull();
        wrappedTwenty();
        outFull();
        fuelBounds();
        stepsBounds();
        spentOrElse();
        refusedRuns();
        runsAnew();
        toldBounds();
        outBounds();
        askedBounds();
        valuesTold();
        wrappedParties();
        namesOfCalls();
        Court.close();
    }

    private static String number(int n) {
        return n == Integer.MIN_VALUE ? "(-2147483647-1)" : n < 0 ? "(-" + -(long) n + ")" : String.valueOf(n);
    }

    private static String many(String text, int times) {
        return text.repeat(times);
    }

    /** Both runs end with this number. */
    private static BlameCourt gives(String text, int want) {
        BlameCourt x = Court.judged(text);
        for (int untold = 1; untold >= 0; untold--) {
            Court.due("run of " + text, 0, untold == 1 ? x.runUntold(20000) : x.run(20000));
            Court.due("told(1) of " + text, NONE, x.told(1));
            Court.due("told(2) of " + text, NONE, x.told(2));
            Court.due("told(4) of " + text, 0, x.told(4));
            Court.due("told(5) of " + text, want, x.told(5));
            Court.due("told(6) of " + text, 0, x.told(6));
        }
        return x;
    }

    /** Both runs fail so, at the mark. */
    private static BlameCourt failsBoth(int how, String marked) {
        Court.failsUntold(how, marked);
        return Court.fails(how, NONE, marked);
    }

    /** "1 PLACE: a place beyond a ROW .. (at the [ ..)", on both its ends, of rows of any length. */
    private static void places() {
        String[] rows = {"new(0,7)", "[7]", "[7,7]", "new(3,7)", "new(1000,7)"};
        int[] lengths = {0, 1, 2, 3, 1000};
        for (int r = 0; r < rows.length; r++) {
            int n = lengths[r];
            for (int i : new int[] {Integer.MIN_VALUE, -n - 1, -n, -2, -1, 0, 1, n - 2, n - 1, n, n + 1, 4000, Integer.MAX_VALUE}) {
                String reads = "part main():int=" + rows[r] + " @[" + number(i) + "];";
                String writes = "part main():int=let r=" + rows[r] + " in {r @[" + number(i) + "]:=print(8);size(r)};";
                if (i >= 0 && i < n) {
                    gives(reads.replace("@", ""), 7);
                    gives(writes.replace("@", ""), n);
                    gives(writes.replace("@", "").replace("size(r)", "r[" + number(i) + "]"), 8);
                } else {
                    failsBoth(1, reads);
                    // behind all parts: what is to be written has been made
                    Court.due("told(7)", 1, failsBoth(1, writes).told(7));
                }
            }
        }
        failsBoth(1, "part main():[any]={[] @[0];[]};");
        // only the one place is written
        gives("part main():int=let r=[1,2,3] in {r[1]:=9;r[0]*100+r[1]*10+r[2]};", 193);
        gives("part main():int=let r=[1,2,3] in let s=[4,5,6] in {r[2]:=9;s[0]:=8;r[2]*1000+s[0]*100+s[1]*10+r[0]};", 9851);
    }

    /** "written: what comes is asked (PLACE ahead of that)"; "size is that within". */
    private static void placesOfWrapped() {
        String head = "part main():int=let r:[any]=[1,2] in ";
        for (String e : new String[] {"{r@[2];0}", "{r@[-1];0}", "{r@[2]:=5;0}", "{r@[-1]:=5;0}", "{r@[2]:=true;0}"}) {
            BlameCourt x = Court.fails(1, NONE, head + e + ";");
            Court.due("nothing but r, and what comes of :=, was asked", e.contains(":=") ? 2 : 1, x.asked(0, 0));
        }
        BlameCourt x = Court.fails(3, 0, "part main():int=let r:[any]=@[1,2] in {r[1]:=true;0};");
        Court.due("asked", 3, x.asked(0, 0));
        x = Court.judged(head + "size(r);");
        Court.due("run", 0, x.run(100));
        Court.due("size asks nothing", 1, x.asked(0, 0));
        Court.due("told(5)", 2, x.told(5));
        x = Court.judged("part main():int=let r:[any]=[] in let s:[int]=r in let t:any=s in size(t);");
        Court.due("run", 0, x.run(100));
        Court.due("told(5), empty", 0, x.told(5));
    }

    /** "or new with a number below 0 or above 1000 (at .. the new)". */
    private static void lengthsOfNew() {
        for (int n : new int[] {Integer.MIN_VALUE, -1001, -1000, -2, -1, 0, 1, 2, 999, 1000, 1001, 1002, 4000, 4001, Integer.MAX_VALUE}) {
            String text = "part main():int=size( @new(" + number(n) + ",print(3)));";
            if (n >= 0 && n <= 1000) {
                BlameCourt x = gives(text.replace("@", ""), n);
                Court.due("told(9)", 1, x.told(9));
            } else {
                BlameCourt x = failsBoth(1, text);
                Court.due("told(9)", 0, x.told(9));
                Court.due("behind all parts: told(7)", 1, x.told(7));
            }
        }
        gives("part main():int=let r=new(3,[5]) in {r[0][0]:=6;r[2][0]};", 6);
    }

    /** "int work is Java's." */
    private static void numbersGoRound() {
        for (int a : NUMBERS) {
            Court.due("print", a, gives("part main():int=print(" + number(a) + ");", a).out(0));
            gives("part main():int=-" + number(a) + ";", -a);
            for (int b : NUMBERS) {
                String both = "part main():int=let a=" + number(a) + " in let b=" + number(b) + " in ";
                gives(both + "a+b;", a + b);
                gives(both + "a-b;", a - b);
                gives(both + "a*b;", a * b);
                gives(both + "if a<b then 1 else 0;", a < b ? 1 : 0);
                gives(both + "if a=b then 1 else 0;", a == b ? 1 : 0);
            }
        }
    }

    /** What ! and < and = give, in both runs, as a VALUE and behind if; "1 truth .. 0 or 1". */
    private static void truths() {
        String[][] es = {{"true", "1"}, {"false", "0"}, {"!true", "0"}, {"!false", "1"}, {"!!true", "1"}, {"!!false", "0"}, {"!!!false", "1"},
            {"1<2", "1"}, {"2<2", "0"}, {"3<2", "0"}, {"1=2", "0"}, {"2=2", "1"}, {"!(1<2)", "0"}, {"!(2<2)", "1"}, {"!(2=2)", "0"}, {"-1<0", "1"},
            {"0<-1", "0"}, {"1<1+1", "1"}, {"2*2=4", "1"}, {"{1;false}", "0"}, {"[true,false][1]", "0"}, {"new(1,true)[0]", "1"}, {"if false then false else true", "1"},
            {"let a=false in !a", "1"}, {"[true][0]:=false", "0"}, {"let a:any=false in a", "0"}, {"let a:any=true in a", "1"}};
        // with as many wrappings and rows around that a truth could be taken for one of them
        String things = "{let w:any=[1] in let w:any=[2] in let w:any=main in w;";
        for (String[] e : es) {
            for (String text : new String[] {"part main():flag=" + e[0] + ";", "part main()=" + e[0] + ";", "part main():flag=" + things + e[0] + "};",
                "part main()=" + things + e[0] + "};"}) {
                BlameCourt x = Court.judged(text);
                for (int untold = 0; untold < 2; untold++) {
                    Court.due("run of " + text, 0, untold == 1 ? x.runUntold(100) : x.run(100));
                    Court.due("told(4) of " + text, 1, x.told(4));
                    Court.due("told(5) of " + text, Integer.parseInt(e[1]), x.told(5));
                    Court.due("told(6) of " + text, 0, x.told(6));
                }
            }
            gives("part main():int=if " + e[0] + " then 4 else 5;", e[1].equals("1") ? 4 : 5);
        }
    }

    /** "2 DIVISION by 0 (at the sign)." */
    private static void divisions() {
        for (int a : NUMBERS) {
            for (int b : NUMBERS) {
                String both = "part main():int=let a=" + number(a) + " in let b=" + number(b) + " in ";
                if (b != 0) {
                    gives(both + "a/b;", a / b);
                    gives(both + "a%b;", a % b);
                } else {
                    failsBoth(2, both + "a @/ b;");
                    failsBoth(2, both + "a @% b;");
                }
            }
        }
        Court.due("behind all parts", 2, failsBoth(2, "part main():int=print(1)@/print(0)*print(2);").told(7));
        failsBoth(2, "part main():int=7%4@%(3-3)%5;");
        failsBoth(2, "part main():int=6/3@/0/2;");
    }

    private static final String[] VALUES = {"1", "true", "[1]", "[]", "f", "g", "h"};
    private static final String PARTS = "part f():int=1;part g(x:int):int=x;part h(a,b,c,d)=a;";

    /** "A is ANY: B int: v must be a number; flag: a truth; a ROW: a ROW ..; a FUNCTION: a FUNCTION of as many PARAMS .. BLAME on g". */
    private static void blames() {
        String[] kinds = {"int", "flag", "[int]", "[any]", "[[flag]]", "fn()int", "fn()any", "fn(any)any", "fn(flag)flag",
            "fn(any,any)any", "fn(any,any,any)any", "fn(int,int,int,int)int"};
        String[] good = {"1", "true", "[1] []", "[1] []", "[1] []", "f", "f", "g", "g", "", "", "h"};
        for (int k = 0; k < kinds.length; k++) {
            for (String v : VALUES) {
                String text = PARTS + "part main():int=let a:any=" + v + " in let b:" + kinds[k] + "=@a in 5;";
                boolean fits = java.util.List.of(good[k].split(" ")).contains(v);
                BlameCourt x = Court.readNew(text.replace("@", ""));
                x.judge();
                Court.due("run of " + text, fits ? 0 : 3, x.run(100));
                Court.due("told(1) of " + text, fits ? NONE : text.indexOf('@'), x.told(1));
                Court.due("told(2) of " + text, fits ? NONE : 3, x.told(2));
                Court.due("told(5) of " + text, fits ? 5 : NONE, x.told(5));
                Court.due("runUntold of " + text, 0, x.runUntold(100));
                String call = PARTS + "part k(b:" + kinds[k] + "):int=5;part main():int=let a:any=" + v + " in k(@a);";
                Court.due("of a call the part in whose text it is", fits ? NONE : 4, blamedBy(call));
                String own = PARTS + "part k(a):" + kinds[k] + "=@a;part main():int={k(" + v + ");5};";
                Court.due("of a part that part", fits ? NONE : 3, blamedBy(own));
            }
        }
    }

    private static int blamedBy(String marked) {
        BlameCourt x = Court.judged(marked.replace("@", ""));
        int end = x.run(100);
        Court.due("run of " + marked, end == 0 || end == 3, true);
        Court.due("told(1) of " + marked, end == 0 ? NONE : marked.indexOf('@'), x.told(1));
        return x.told(2);
    }

    /** "4 WRONG: in an untold run what must FIT int, flag, must be a ROW, a FUNCTION of as many, isn't ..: .. where its GUARD would be". */
    private static void wrongs() {
        String[] es = {"@?+1", "1-@?", "@?*2", "2/@?", "@?%2", "-@?", "@?<1", "1=@?", "new(@?,1)", "print(@?)", "[1,2][@?]", "[1,2][@?]:=3",
            "!@?", "if @? then 1 else 2", "size(@?)", "?@[0]", "?@[0]:=2", "?@()", "?@(1)", "?@(1,2)", "?@(1,2,3,4)"};
        for (int e = 0; e < es.length; e++) {
            String good = e < 12 ? "1" : e < 14 ? "true" : e < 17 ? "[1] []" : e == 17 ? "f" : e == 18 ? "g" : e == 19 ? "" : "h";
            for (String v : VALUES) {
                String text = PARTS + "part main():int=let a=" + v + " in {" + es[e].replace("?", "a") + ";print(5)};";
                if (!java.util.List.of(good.split(" ")).contains(v)) {
                    Court.due("told(7) of " + text, 0, Court.failsUntold(4, text).told(7));
                } else {
                    BlameCourt x = Court.readNew(text.replace("@", ""));
                    // the places of an empty row are beyond it all the same
                    Court.due("runUntold of " + text, v.equals("[]") && e > 14 ? 1 : 0, x.runUntold(100));
                }
            }
        }
        // "of GUARDS of calls' Es, lets, PARTS, := nothing is asked"
        for (String v : VALUES) {
            for (String e : new String[] {"k(" + v + ")", "(k)(" + v + ")", "let b:int=" + v + " in 5", "let b:fn()flag=" + v + " in 5", "j()",
                "{[1][0]:=" + v + ";5}", "{[f][0]:=" + v + ";5}", "{if true then " + v + " else 2;5}", "{[" + v + ",2];5}"}) {
                BlameCourt x = Court.readNew(PARTS + "part j():flag={" + v + ";5};part k(b:flag):[int]=5;part main():int=" + e + ";");
                Court.due("runUntold of " + e, 0, x.runUntold(100));
                Court.due("told(5) of " + e, 5, x.told(5));
            }
        }
        // asked as it is made, ahead of what comes behind
        for (String e : new String[] {"@true+print(1)", "@true<print(1)", "1@[print(1)]", "1@[print(1)]:=2", "1@(print(1))", "f@(print(1))",
            "new(@true,print(1))", "[1][@true]:=print(1)"}) {
            Court.due("told(7) of " + e, 0, Court.failsUntold(4, PARTS + "part main():int={" + e + ";1};").told(7));
        }
        for (String e : new String[] {"print(1)+@true", "new(print(1),1)@()", "[print(1)][@true]"}) {
            Court.due("told(7) of " + e, 1, Court.failsUntold(4, PARTS + "part main():int={" + e + ";1};").told(7));
        }
    }

    /** A value goes from the first kind to the second; so many askings, so many wrappings, on top of those that came to the first. */
    private static void asks(String value, String from, String to, int askings, int wrappings) {
        String first = PARTS + "part main():int=let a:" + from + "=" + value + " in ";
        BlameCourt x = Court.judged(first + "5;");
        x.run(100);
        int before = x.asked(3, 3);
        int wrapped = x.told(8);
        BlameCourt y = Court.judged(first + "let b:" + to + "=a in 5;");
        Court.due("run from " + from + " to " + to, 0, y.run(100));
        Court.due("askings from " + from + " to " + to, before + askings, y.asked(3, 3));
        Court.due("wrappings from " + from + " to " + to, wrapped + wrappings, y.told(8));
        Court.due("asked(0, 3)", 0, y.asked(0, 3));
        Court.due("asked(3, 0)", 0, y.asked(3, 0));
    }

    /** "Each asking of KINDS that are not LIKE (also one that an asking goes on with: from ANY to a ROW of int is two) counts one". */
    private static void askings() {
        asks("1", "int", "int", 0, 0);
        asks("1", "int", "any", 1, 0);
        asks("1", "any", "any", 0, 0);
        asks("1", "any", "int", 1, 0);
        asks("true", "flag", "any", 1, 0);
        asks("true", "any", "flag", 1, 0);
        asks("[1]", "[int]", "[int]", 0, 0);
        asks("[1]", "[int]", "any", 2, 1);
        asks("[]", "[any]", "any", 1, 0);
        asks("[]", "any", "[any]", 1, 0);
        asks("[]", "any", "[int]", 2, 1);
        asks("[1]", "any", "[any]", 1, 0);
        asks("[1]", "any", "[int]", 2, 1);
        asks("[1]", "[int]", "[any]", 1, 1);
        asks("[]", "[any]", "[int]", 1, 1);
        asks("[[1]]", "[[int]]", "[any]", 1, 1);
        asks("[[1]]", "[[int]]", "any", 2, 1);
        asks("[[]]", "[[any]]", "any", 2, 1);
        asks("f", "fn()int", "fn()int", 0, 0);
        asks("f", "fn()int", "any", 2, 1);
        asks("f", "fn()int", "fn()any", 1, 1);
        asks("f", "any", "fn()any", 1, 0);
        asks("f", "any", "fn()int", 2, 1);
        asks("h", "fn(any,any,any,any)any", "any", 1, 0);
        asks("h", "any", "fn(any,any,any,any)any", 1, 0);
        asks("h", "any", "fn(any,any,any,int)any", 2, 1);
        asks("g", "fn(int)int", "fn(int)any", 1, 1);
        // one that breaks has been counted, what it would go on with has not
        BlameCourt x = Court.fails(3, 3, PARTS + "part main():int=let a:any=1 in let b:[int]=@a in 5;");
        Court.due("askings of one that breaks", 2, x.asked(3, 3));
        Court.due("wrappings", 0, x.told(8));
    }

    /** "5 DEEP: the 101st call of PARTS within one another (main is the first), at the ( ". */
    private static void callsDeep() {
        String f = "part f(n:int):int=if n=1 then 5 else f @(print(n-1));";
        for (int n = 97; n <= 101; n++) {
            String text = f + "part main():int=f(" + n + ");";
            if (n <= 99) {
                Court.due("told(7)", n - 1, gives(text.replace("@", ""), 5).told(7));
            } else {
                // what goes into the call is made ahead of it
                Court.due("told(7)", 99, failsBoth(5, text).told(7));
            }
        }
        // calls that have ended are not around a later one, and those of an e are not around the call
        String quiet = f.replace("@(print(n-1))", "(n-1)");
        gives(quiet + "part main():int=f(99)+f(99)*f(99);", 30);
        gives("part f(n:int):int=n+1;part main():int=" + many("f(", 40) + "1" + many(")", 40) + ";", 41);
        gives(quiet + "part main():int=f(f(99)+94);", 5);
        // of two parts, each calls the other
        String two = "part f(n:int):int=if n=1 then 5 else g(n-1);part g(n:int):int=if n=1 then 6 else f@(n-1);part main():int=";
        gives(two.replace("@", "") + "f(99);", 5);
        gives(two.replace("@", "") + "g(99);", 6);
        failsBoth(5, two + "g(100);");
        failsBoth(5, two.replace("@", "").replace("g(n-1)", "g @(n-1)") + "f(100);");
        BlameCourt x = failsBoth(5, "part main():int=1+main @();");
        Court.due("told(3): each main begins three", 400, x.told(3));
        // a wrapping is no call, and what it asks of values comes ahead of the call
        String wrapped = "part f(n:int,g:fn(any)int):int=if n=1 then g(7) else f(n-1,g);part h(x:int):int=x;part main():int=f(";
        BlameCourt y = Court.judged(wrapped + "98,h);");
        Court.due("run", 0, y.run(20000));
        Court.due("told(5)", 7, y.told(5));
        Court.due("asked(0, 2)", 1, y.asked(0, 2));
        y = Court.fails(5, NONE, wrapped.replace("g(7)", "g@(7)") + "99,h);");
        Court.due("asked(0, 2)", 1, y.asked(0, 2));
        y = Court.fails(3, 0, wrapped.replace("g(7)", "g(true)") + "99,@h);");
        Court.due("asked(0, 2)", 1, y.asked(0, 2));
        // values are asked their guards ahead of the call, too
        y = Court.fails(3, 0, "part f(n:int,a):int=if n=1 then k(@a) else f(n-1,a);part k(b:int):int=b;part main():int=f(99,true);");
        Court.due("asked(0, 1)", 1, y.asked(0, 1));
    }

    /** "6 FULL: ROWS' places together above 4,000 .. (at the [ , new ..)". */
    private static void placesFull() {
        String head = "part main():int={new(1000,0);new(1000,0);new(1000,0);new(";
        String[][] last = {{"@[1]", "1"}, {"@[1,2]", "2"}, {"@[" + many("1,", 19) + "1]", "20"}, {"@new(1,true)", "1"}, {"@new(1000,1)", "1000"},
            {"@[]", "0"}, {"@new(0,1)", "0"}};
        for (String[] l : last) {
            int n = Integer.parseInt(l[1]);
            gives(head + (1000 - n) + ",0);" + l[0].replace("@", "") + ";7};", 7);
            gives(head + (1000 - n) + ",0);" + l[0].replace("@", "") + ";[];new(0,1);7};", 7);
            if (n > 0) {
                Court.due("told(9)", 4, failsBoth(6, head + (1000 - n + 1) + ",0);" + l[0] + ";7};").told(9));
                Court.due("told(9)", 5, failsBoth(6, head + (1000 - n) + ",0);" + l[0].replace("@", "") + ";@[1];7};").told(9));
                Court.due("told(9)", 6, failsBoth(6, head + (1000 - n) + ",0);" + l[0].replace("@", "") + ";[];@new(1,1);7};").told(9));
            }
        }
        // places of rows within rows count, too, and those of rows that nothing holds any more
        failsBoth(6, head + "990,0);@[[1,2,3],[4,5,6],[7],[8],[9]];7};");
        gives(head + "986,0);[[1,2,3],[4,5,6],[7],[8],[9]];7};", 7);
        Court.due("PLACE ahead of FULL", 4, failsBoth(1, head + "1000,0);@new(1001,0);7};").told(9));
        Court.due("the parts of a row ahead of it", 3, failsBoth(6, head + "1000,0);@[print(1),print(2),print(3)];7};").told(7));
        // wrappings have no places
        gives(head + "1000,0);let a:any=main in 7};", 7);
    }

    /** So many rows are made, each without places. */
    private static String rows(int many) {
        StringBuilder b = new StringBuilder();
        int left = many;
        while (left >= 10) {
            int tens = Math.min(90, left / 10);
            b.append("t(").append(tens).append(");");
            left -= 10 * tens;
        }
        return b + many("[];", left);
    }

    private static final String TENS = "part t(n:int):int=if n=0 then 0 else {[];[];[];[];[];[];[];[];[];[];t(n-1)};"
        + "part q():fn(int)int=q();part main():int=let r=[1] in let f:fn()int=main in {";

    private static void made(BlameCourt x, int wrappings, int rows) {
        Court.due("told(8)", wrappings, x.told(8));
        Court.due("told(9)", rows, x.told(9));
    }

    /** "ROWS and WRAPPINGS together above 1,000 (at the [ , new ..; of a WRAPPING at the place of its GUARD)". */
    private static void thingsFull() {
        String[] rows = {"@[]", "@new(0,1)", "@[1]", "@new(3,1)"};
        String[] wrappings = {"let a:any=@r in 1", "let a:[any]=@r in 1", "let a:any=@f in 1", "let a:fn()any=@f in 1", "let a:any=@main in 1"};
        for (String e : rows) {
            made(gives(TENS + rows(998) + e.replace("@", "") + ";7};", 7), 0, 1000);
            made(failsBoth(6, TENS + rows(999) + e + ";7};"), 0, 1000);
        }
        for (String e : wrappings) {
            made(gives(TENS + rows(998) + e.replace("@", "") + ";7};", 7), 1, 999);
            BlameCourt x = Court.fails(6, NONE, TENS + rows(999) + e + ";7};");
            made(x, 0, 1000);
            Court.due("it has been asked", e.contains(":any") ? 2 : 1, x.asked(2, 2));
            // in an untold run there is no wrapping to be too many
            Court.due("runUntold", 0, x.runUntold(20000));
            made(x, 0, 1000);
            String plain = e.replace("@", "");
            for (String row : rows) {
                made(Court.fails(6, NONE, TENS + rows(998) + plain + ";" + row + ";7};"), 1, 999);
                made(Court.fails(6, NONE, TENS + rows(997) + row.replace("@", "") + ";" + plain + ";" + e + ";7};"), 1, 999);
            }
            made(Court.fails(6, NONE, TENS + rows(997) + plain + ";" + plain + ";" + e + ";7};"), 2, 998);
        }
        // a value that is read out of a wrapped row, and is wrapped then, at the place of that row's guard
        String nested = "part t(n:int):int=if n=0 then 0 else {[];[];[];[];[];[];[];[];[];[];t(n-1)};"
            + "part main():int=let r:[[any]]=@[[1]] in {";
        made(Court.judgedRun(nested.replace("@", "") + rows(996) + "r[0];7};", 0), 2, 998);
        made(Court.fails(6, NONE, nested + rows(997) + "r[0];7};"), 1, 999);
        made(Court.fails(6, NONE, nested + rows(996) + "r[0]:=[];7};"), 1, 999);
    }

    /** "ROWS and WRAPPINGS together above 1,000", where all of them are wrappings: each has what it needs. */
    private static void thousandWrappings() {
        String tens = "part t(n:int):int=if n=0 then 0 else {" + many("let w:any=q in 0;", 10) + "t(n-1)};part q(x:int):int=x+1;part main():int={t(90);t(9);";
        for (int n = 7; n <= 9; n++) {
            String text = tens + many("let w:any=q in 0;", n) + "let a:fn(any)int=@q in a(6)};";
            BlameCourt x = Court.judged(text.replace("@", ""));
            Court.due("run with " + (990 + n), 0, x.run(20000));
            made(x, 991 + n, 0);
            Court.due("told(5)", 7, x.told(5));
            Court.due("asked(2, 2)", 2 * n + 3, x.asked(2, 2));
            made(Court.fails(3, 2, text.replace("a(6)", "a(true)")), 991 + n, 0);
        }
        String most = tens + many("let w:any=q in 0;", 9);
        made(Court.fails(6, NONE, most + "let w:any=q in let a:fn(any)int=@q in a(6)};"), 1000, 0);
        made(Court.fails(6, NONE, most + "let w:any=q in size(@[])};"), 1000, 0);
        made(Court.fails(6, NONE, most + "let w:any=q in size(@new(0,1))};"), 1000, 0);
        // what wraps nothing is asked as ever
        made(Court.judgedRun(most + "let w:any=q in let a:any=5 in let f:fn(any)any=w in a};", 0), 1000, 0);
        // as many as there may be, half of them rows
        String rows = "part t(n:int):int=if n=0 then 0 else {" + many("let w:any=[n] in 0;", 10) + "t(n-1)};part main():int={t(49);"
            + many("let w:any=[1] in 0;", 9);
        BlameCourt x = Court.judgedRun(rows + "let a:[any]=[6,7] in {a[1]:=8;a[0]*10+a[1]}};", 0);
        made(x, 500, 500);
        Court.due("told(5)", 68, x.told(5));
        made(Court.fails(6, NONE, rows + "[];let a:[any]=@[6,7] in {a[1]:=8;a[0]*10+a[1]}};"), 499, 501);
    }

    /** Lets that put so many wrappings around a value, which has then the name s (told) or r (any). */
    private static String wrapped(int many, String value, String told) {
        StringBuilder b = new StringBuilder("let r:any=" + value + " in ");
        for (int i = 2; i <= many; i++) {
            b.append(i % 2 == 0 ? "let s:" + told + "=r in " : "let r:any=s in ");
        }
        return b.toString();
    }

    /** "a 21st WRAPPING around one VALUE". */
    private static void wrappingsFull() {
        String q = "part q(x:int):int=x;part main()";
        String[][] values = {{"[1]", "[int]"}, {"q", "fn(int)int"}};
        for (String[] v : values) {
            for (int n : new int[] {1, 2, 18, 19, 20}) {
                String text = q + (n % 2 == 0 ? ":" + v[1] + "=" : "=") + wrapped(n, v[0], v[1]) + (n % 2 == 0 ? "s;" : "r;");
                BlameCourt x = Court.judged(text);
                Court.due("run with " + n, 0, x.run(100));
                Court.due("told(4)", v[0].equals("q") ? 4 : 3, x.told(4));
                Court.due("told(5)", v[0].equals("q") ? 0 : 1, x.told(5));
                Court.due("told(6)", n, x.told(6));
                made(x, n, v[0].equals("q") ? 0 : 1);
                Court.due("runUntold", 0, x.runUntold(100));
                Court.due("told(6) untold", 0, x.told(6));
            }
            BlameCourt x = Court.fails(6, NONE, q + ":int=" + wrapped(20, v[0], v[1]) + "let t:any=@s in 1;");
            made(x, 20, v[0].equals("q") ? 0 : 1);
            Court.due("runUntold", 0, x.runUntold(100));
            made(x, 0, v[0].equals("q") ? 0 : 1);
            Court.fails(6, NONE, q + ":any=@" + wrapped(20, v[0], v[1]) + "s;");
            // around one value: another one may have as many
            x = Court.judgedRun(q + ":int={" + wrapped(20, v[0], v[1]) + "5;" + wrapped(20, v[0], v[1]) + "5};", 0);
            Court.due("told(8)", 40, x.told(8));
            // like kinds wrap nothing, though there are twenty
            x = Court.judgedRun(q + ":int=" + wrapped(20, v[0], v[1]) + "let t:" + v[1] + "=s in 5;", 0);
            Court.due("told(8)", 20, x.told(8));
        }
    }

    /** Twenty wrappings ask, each of what goes in and of what comes out. */
    private static void wrappedTwenty() {
        String q = "part q(x:int):int=x+1;part main():int=";
        for (int n = 2; n <= 20; n += 2) {
            int made = Court.judgedRun(q + wrapped(n, "[6]", "[int]") + "5;", 0).asked(1, 1);
            BlameCourt x = Court.judgedRun(q + wrapped(n, "[6]", "[int]") + "s[0];", 0);
            Court.due("told(5)", 6, x.told(5));
            Court.due("askings of reading", made + n, x.asked(1, 1));
            x = Court.judgedRun(q + wrapped(n, "[6]", "[int]") + "s[0]:=8;", 0);
            Court.due("told(5)", 8, x.told(5));
            Court.due("askings of writing", made + n, x.asked(1, 1));
            x = Court.judgedRun(q + wrapped(n, "[6]", "[int]") + "{s[0]:=8;s[0]};", 0);
            Court.due("told(5)", 8, x.told(5));
            Court.due("askings of both", made + 2 * n, x.asked(1, 1));
            int calling = Court.judgedRun(q + wrapped(n, "q", "fn(int)int") + "5;", 0).asked(1, 1);
            x = Court.judgedRun(q + wrapped(n, "q", "fn(int)int") + "s(6);", 0);
            Court.due("told(5)", 7, x.told(5));
            Court.due("askings of calling", calling + 2 * n, x.asked(1, 1));
            // what is called has its own stack of things: a block, a let and a row within it
            String block = q.replace("x+1", "{x;[x];let y=x in {y;y+1}}");
            x = Court.judgedRun(block + wrapped(n, "q", "fn(int)int") + "{1;s(6)}+s(s(8));", 0);
            Court.due("told(5)", 17, x.told(5));
            Court.due("askings of calling three times", calling + 6 * n, x.asked(1, 1));
        }
    }

    /** "print puts a number to OUT (200 at most: FULL)." */
    private static void outFull() {
        String p = "part p(n:int):int=if n=0 then 0 else {print(n);p(n-1)};part main():int={p(97);p(97);";
        for (int n = 4; n <= 6; n++) {
            BlameCourt x = gives(p + many("print(5);", n) + "9};", 9);
            Court.due("told(7)", 194 + n, x.told(7));
            Court.due("the last of OUT", 5, x.out(193 + n));
            Court.due("behind the last of OUT", 0, x.out(194 + n));
        }
        BlameCourt full = failsBoth(6, p + many("print(5);", 6) + "@print(5);9};");
        Court.due("told(7)", 200, full.told(7));
        Court.due("out(0)", 97, full.out(0));
        Court.due("out(193)", 1, full.out(193));
        Court.due("out(199)", 5, full.out(199));
        Court.due("out(200)", 0, full.out(200));
        // its number is asked ahead of that
        Court.fails(3, 1, p + many("print(5);", 6) + "let a:any=true in print(@a)};");
        Court.failsUntold(4, p + many("print(5);", 6) + "print(@true)};");
    }

    /** "FUEL (0 .. 20000) ..; NONE, and nothing is done, for other FUEL, or if it isn't judged." */
    private static void fuelBounds() {
        BlameCourt x = Court.judged("part f(x)=print(x);part main():int={f(1);2};");
        x.run(20000);
        for (int fuel : new int[] {Integer.MIN_VALUE, -20000, -2, -1, 20001, 20002, 40000, Integer.MAX_VALUE}) {
            Court.refused("run(" + fuel + ")", x, NONE, () -> x.run(fuel));
            Court.refused("runUntold(" + fuel + ")", x, NONE, () -> x.runUntold(fuel));
        }
        for (int fuel : new int[] {0, 1, 6, 7, 19999, 20000}) {
            int want = fuel < 7 ? 7 : 0;
            Court.due("run(" + fuel + ")", want, x.run(fuel));
            Court.due("told(3)", Math.min(fuel, 7), x.told(3));
            Court.due("runUntold(" + fuel + ")", want, x.runUntold(fuel));
            Court.due("told(3)", Math.min(fuel, 7), x.told(3));
        }
        x.tell(0, false);
        for (int fuel : new int[] {-1, 0, 20000, 20001}) {
            Court.refused("run(" + fuel + ") when not judged", x, NONE, () -> x.run(fuel));
        }
    }

    /** "7 SPENT: a STEP beyond the FUEL (at the first TOKEN of that E)": a program of 20,000 steps, and of one more. */
    private static void stepsBounds() {
        String p = "part p(n:int):int=if n=0 then 0 else p(n-1);part main():int={";
        // p(n) takes 9 for each n and 5 at its end, 3 for the call; { } one
        String most = p + many("p(98);", 22) + "p(45);1;1;1;1;1;1";
        BlameCourt x = Court.judged(most + "};");
        Court.due("run(20000)", 0, x.run(20000));
        Court.due("told(3)", 20000, x.told(3));
        Court.due("told(5)", 1, x.told(5));
        Court.due("runUntold(20000)", 0, x.runUntold(20000));
        Court.due("told(3)", 20000, x.told(3));
        Court.due("run(19999)", 7, x.run(19999));
        Court.due("told(1)", most.length() - 1, x.told(1));
        Court.due("told(3)", 19999, x.told(3));
        Court.due("told(5)", NONE, x.told(5));
        for (String more : new String[] {";@1", ";@print(1)", ";@(1)", ";@let a=1 in a", ";@-1"}) {
            BlameCourt y = failsBoth(7, most + more + "};");
            Court.due("told(3)", 20000, y.told(3));
            Court.due("told(7)", 0, y.told(7));
        }
        // signs, calls and places begin with their first token, all ahead of it
        for (String e : new String[] {"1+1", "1+1+1", "1*1+1<1", "f()", "f()+1", "[1][0]", "[[1]][0][0]", "[1][0]:=1"}) {
            String text = "part f():int=1;part main():any={true;" + e + "};";
            BlameCourt y = Court.judged(text);
            for (int fuel = 2; fuel < 4; fuel++) {
                Court.due("run(" + fuel + ") of " + e, 7, y.run(fuel));
                Court.due("told(1) of " + e, text.indexOf("true;") + 5, y.told(1));
                Court.due("told(3) of " + e, fuel, y.told(3));
            }
        }
    }

    /** A step that is spent comes ahead of all that its E would do; what fails with the last of the FUEL fails so. */
    private static void spentOrElse() {
        String[] es = {"[1][1]", "new(-1,1)", "1/0", "k()", "{p(90);p(90);p(20);print(1)}"};
        int[] hows = {1, 1, 2, 5, 6};
        // k: two for main's call, two for each of the 99 that k makes; p(n): 12 for each n and 5 at its end, 3 for the call
        int[] wants = {5, 5, 4, 1 + 2 + 2 * 99, 1 + 1 + (12 * 200 + 3 * 8) + 2};
        for (int i = 0; i < es.length; i++) {
            String text = "part p(n:int):int=if n=0 then 0 else {print(n);p(n-1)};part k():int=k();part main():int={" + es[i] + ";1};";
            BlameCourt x = Court.judged(text);
            int how = hows[i];
            int steps = wants[i];
            Court.due("run of " + text, how, x.run(20000));
            Court.due("told(3) of " + text, steps, x.told(3));
            Court.due("run with just so much", how, x.run(steps));
            Court.due("told(3)", steps, x.told(3));
            Court.due("run with one less", 7, x.run(steps - 1));
            Court.due("told(3)", steps - 1, x.told(3));
            Court.due("told(2)", NONE, x.told(2));
            Court.due("runUntold with just so much", how, x.runUntold(steps));
            Court.due("runUntold with one less", 7, x.runUntold(steps - 1));
        }
        BlameCourt x = Court.judged("part main():int=let a:any=true in a;");
        Court.due("blame with the last of the fuel", 3, x.run(3));
        Court.due("told(2)", 0, x.told(2));
        Court.due("spent ahead of it", 7, x.run(2));
        Court.due("told(2)", NONE, x.told(2));
        Court.due("told(1)", 34, x.told(1));
    }

    /** "NONE, and nothing is done: other FUEL, or there is none"; behind a text that is refused, and a judge that fails. */
    private static void refusedRuns() {
        BlameCourt x = new BlameCourt();
        Court.refused("run of none", x, NONE, () -> x.run(5));
        Court.refused("runUntold of none", x, NONE, () -> x.runUntold(5));
        Court.read(x, "part main():int=x;");
        Court.refused("run of none", x, NONE, () -> x.run(5));
        Court.refused("runUntold of none", x, NONE, () -> x.runUntold(5));
        Court.read(x, "part main():int={print(3);true};");
        Court.refused("run of what isn't judged", x, NONE, () -> x.run(5));
        Court.due("runUntold of what isn't judged", 0, x.runUntold(5));
        Court.due("out(0)", 3, x.out(0));
        Court.due("judge", NONE, x.judge());
        Court.refused("run of what can't be judged", x, NONE, () -> x.run(5));
        Court.due("runUntold of what can't be judged", 0, x.runUntold(5));
        Court.due("told(4)", 1, x.told(4));
        Court.refusedRead(x, 1, "@#");
        Court.due("runUntold of the former one", 7, x.runUntold(2));
        Court.due("told(7)", 0, x.told(7));
        Court.due("told(1)", 23, x.told(1));
    }

    /** Each run begins anew: nothing of the one ahead of it is left. */
    private static void runsAnew() {
        String text = "part k(r:[int]):int=r[0];part main():int={print(1);print(2);let a:any=[true] in k(a)};";
        BlameCourt x = Court.judged(text);
        for (int round = 0; round < 3; round++) {
            Court.due("run", 3, x.run(100));
            tolds(x, 3, text.indexOf("a)}"), 1, 14, NONE, NONE, NONE, 2, 2, 1);
            Court.due("out(1)", 2, x.out(1));
            Court.due("asked(1, 0)", 3, x.asked(1, 0));
            Court.due("asked(1, 1): the let, and what is read through its wrapping", 3, x.asked(1, 1));
            Court.due("runUntold", 0, x.runUntold(100));
            tolds(x, 0, NONE, NONE, 14, 1, 1, 0, 2, 0, 1);
            Court.due("asked(1, 0)", 0, x.asked(1, 0));
            Court.due("asked(1, 1)", 0, x.asked(1, 1));
            Court.due("run(3)", 7, x.run(3));
            tolds(x, 7, text.indexOf("print(2)"), NONE, 3, NONE, NONE, NONE, 1, 0, 0);
            Court.due("out(0)", 1, x.out(0));
            Court.due("out(1)", 0, x.out(1));
            Court.due("asked(1, 0)", 0, x.asked(1, 0));
            Court.due("run(0)", 7, x.run(0));
            tolds(x, 7, text.indexOf("{"), NONE, 0, NONE, NONE, NONE, 0, 0, 0);
            Court.due("out(0)", 0, x.out(0));
        }
        // what one run may make each may make
        BlameCourt y = Court.judged(TENS + rows(998) + "let a:any=r in 1;7};");
        BlameCourt z = Court.judged("part p(n:int):int=if n=0 then 0 else {print(n);p(n-1)};"
            + "part main():int={new(1000,0);new(1000,0);new(1000,0);new(1000,0);p(97);p(97);p(6)};");
        for (int round = 0; round < 4; round++) {
            Court.due("run", 0, y.run(20000));
            made(y, 1, 999);
            Court.due("runUntold", 0, y.runUntold(20000));
            made(y, 0, 999);
            Court.due("run", 0, z.run(20000));
            made(z, 0, 4);
            Court.due("told(7)", 200, z.told(7));
        }
        BlameCourt deep = Court.judged("part f(n:int):int=if n=1 then 5 else f(n-1);part main():int=f(99);");
        for (int round = 0; round < 3; round++) {
            Court.due("run", 0, deep.run(20000));
            Court.due("run", 7, deep.run(500));
        }
    }

    private static void tolds(BlameCourt x, int... want) {
        for (int what = 0; what < want.length; what++) {
            Court.due("told(" + what + ")", want[what], x.told(what));
        }
    }

    /** "Of the latest run: 0 .. 9 .. NONE for others, and ahead of any." */
    private static void toldBounds() {
        BlameCourt x = new BlameCourt();
        noRun(x);
        Court.read(x, "part main():int=print(4);");
        noRun(x);
        x.judge();
        noRun(x);
        x.run(-1);
        noRun(x);
        x.run(100);
        tolds(x, 0, NONE, NONE, 2, 0, 4, 0, 1, 0, 0);
        for (int what : new int[] {Integer.MIN_VALUE, -2, -1, 10, 11, 100, Integer.MAX_VALUE}) {
            Court.due("told(" + what + ")", NONE, x.told(what));
        }
        x.judge();
        x.tell(0, false);
        x.read();
        tolds(x, 0, NONE, NONE, 2, 0, 4, 0, 1, 0, 0);
        Court.read(x, "part main():int=print(4);");
        noRun(x);
    }

    private static void noRun(BlameCourt x) {
        for (int what = -1; what <= 10; what++) {
            Court.due("told(" + what + ") ahead of any", NONE, x.told(what));
            Court.due("out(" + what + ") ahead of any", 0, x.out(what));
            Court.due("asked(0, " + what + ") ahead of any", NONE, x.asked(0, what));
        }
    }

    /** "Number i of OUT of the latest run. 0 if there is none such." */
    private static void outBounds() {
        BlameCourt x = Court.judged("part main():int={print(-5);print(2147483647);print(-1)};");
        x.run(100);
        int[] out = {-5, 2147483647, -1};
        for (int i : new int[] {Integer.MIN_VALUE, -3, -1, 0, 1, 2, 3, 4, 199, 200, 201, Integer.MAX_VALUE}) {
            Court.due("out(" + i + ")", i >= 0 && i < 3 ? out[i] : 0, x.out(i));
        }
        x.run(4);
        for (int i = 0; i < 4; i++) {
            Court.due("out(" + i + ") of a shorter run", i == 0 ? -5 : 0, x.out(i));
        }
        Court.due("told(7)", 1, x.told(7));
    }

    /** "How often in the latest run something was asked with a GIVER and a TAKER. NONE for others, and ahead of any." */
    private static void askedBounds() {
        StringBuilder parts = new StringBuilder("part main():int=paa(1);");
        for (int i = 0; i < 39; i++) {
            parts.append("part p").append((char) ('a' + i % 26)).append((char) ('a' + i / 26)).append("(x):int=");
            parts.append(i < 38 ? "p" + (char) ('a' + (i + 1) % 26) + (char) ('a' + (i + 1) / 26) + "(1);" : "x;");
        }
        BlameCourt x = Court.judged(parts.toString());
        Court.due("run", 0, x.run(20000));
        for (int g = 0; g < 40; g++) {
            for (int t = 0; t < 40; t++) {
                Court.due("asked(" + g + ", " + t + ")", t == g + 1 || g == 39 && t == 39 ? 1 : 0, x.asked(g, t));
            }
        }
        for (int k : new int[] {Integer.MIN_VALUE, -1, 40, 41, 100, Integer.MAX_VALUE}) {
            for (int other : new int[] {-1, 0, 39, 40}) {
                Court.due("asked(" + k + ", " + other + ")", NONE, x.asked(k, other));
                Court.due("asked(" + other + ", " + k + ")", NONE, x.asked(other, k));
            }
        }
        x.runUntold(20000);
        Court.due("asked(0, 1) of an untold run", 0, x.asked(0, 1));
        Court.due("asked(39, 39) of an untold run", 0, x.asked(39, 39));
        BlameCourt y = Court.judged("part f(x)=x;part main():int=f(1);");
        y.run(10);
        Court.due("asked(1, 0)", 1, y.asked(1, 0));
        Court.due("asked(2, 0)", NONE, y.asked(2, 0));
        Court.due("asked(0, 2)", NONE, y.asked(0, 2));
    }

    /** "4 the sort of its VALUE (0 number, 1 truth, 3 ROW, 4 FUNCTION; NONE if it failed), 5 that .., 6 how many WRAPPINGS". */
    private static void valuesTold() {
        String f = "part f():int=1;part g(x:int):int=x;part main()";
        String[] texts = {":int=-2147483647-1", "=7", ":flag=false", "=true", ":[any]=[]", "=[]", ":[int]=[1,2]", "=[1,2]", "=new(1000,true)",
            ":fn()int=f", ":fn(int)int=g", "=f", "=g", "=main", ":fn(any)int=g", "=[[1]]", "=[[1]][0]", "=[f][0]"};
        int[][] want = {{0, Integer.MIN_VALUE, 0}, {0, 7, 0}, {1, 0, 0}, {1, 1, 0}, {3, 0, 0}, {3, 0, 0}, {3, 2, 0}, {3, 2, 1}, {3, 1000, 1},
            {4, 0, 0}, {4, 1, 0}, {4, 0, 1}, {4, 1, 1}, {4, 2, 0}, {4, 1, 1}, {3, 1, 1}, {3, 1, 1}, {4, 0, 1}};
        for (int i = 0; i < texts.length; i++) {
            BlameCourt x = Court.judgedRun(f + texts[i] + ";", 0);
            for (int what = 4; what <= 6; what++) {
                Court.due("told(" + what + ") of " + texts[i], want[i][what - 4], x.told(what));
            }
            Court.due("runUntold", 0, x.runUntold(100));
            Court.due("told(4) untold", want[i][0], x.told(4));
            Court.due("told(5) untold", want[i][1], x.told(5));
            Court.due("told(6) untold", 0, x.told(6));
            x.run(0);
            for (int what = 4; what <= 6; what++) {
                Court.due("told(" + what + ") of what failed", NONE, x.told(what));
            }
        }
    }

    /** Both parties of a wrapping: with g, t what comes out, with t, g what goes in; each at the wrapping's place. */
    private static void wrappedParties() {
        // a row of any goes to one of int: who reads a truth blames the giver, who writes can't be wrong
        String rows = "part t(r:[int]):int={r[0]:=5;r[0]+r[1]};part main():int=t(@[1,x]);";
        BlameCourt x = Court.fails(3, 1, rows.replace("x", "true"));
        Court.due("asked(1, 0): the guard, and two readings", 3, x.asked(1, 0));
        Court.due("asked(0, 1): one writing", 1, x.asked(0, 1));
        // a row of int goes to one of any: who writes a truth is the taker
        x = Court.fails(3, 0, "part t(r:[any]):any={r[0];r[1]:=true};part main():any=t(@[1,2]);");
        Court.due("asked(1, 0)", 2, x.asked(1, 0));
        Court.due("asked(0, 1)", 1, x.asked(0, 1));
        Court.due("asked(0, 0)", 1, x.asked(0, 0));
        // values of a function from left to right, each of them ahead of the call
        String head = "part t(f:fn(any,any,any,any)any):any=f(";
        String tail = ");part f(a:int,b:int,c:int,d:int):int=print(a);part main():any=t(@f);";
        String[] values = {"1", "2", "3", "4"};
        for (int wrong = 0; wrong <= 4; wrong++) {
            String[] v = values.clone();
            if (wrong < 4) {
                v[wrong] = "true";
                x = Court.fails(3, 0, head + String.join(",", v) + tail);
                Court.due("told(7)", 0, x.told(7));
                Court.due("asked(0, 2): so many values", wrong + 1, x.asked(0, 2));
                Court.due("asked(2, 0): the guard alone", 1, x.asked(2, 0));
            } else {
                x = Court.judgedRun(head + String.join(",", v) + tail.replace("@", ""), 0);
                Court.due("told(7)", 1, x.told(7));
                Court.due("asked(0, 2)", 4, x.asked(0, 2));
                Court.due("asked(2, 0): and what it gives", 2, x.asked(2, 0));
            }
        }
        // within two wrappings the outer one asks first of what goes in, the inner one first of what comes out
        x = Court.fails(3, 0, "part t(f:fn(any)any):any=u(f);part u(f:fn(any)int):any=f(true);part g(x:int):int=x;part main():any=t(@g);");
        Court.due("asked(0, 3)", 1, x.asked(0, 3));
        x = Court.fails(3, 3, "part t(f:fn(int)int):any=u(f);part u(f:fn(any)any):any=f(1);part g(x):any=true;part main():any=t(@g);");
        Court.due("asked(0, 1): of what comes out the outer one is not come to", 1, x.asked(0, 1));
        outerFirst();
        writtenThrough();
    }

    /** "each VALUE .. is asked .., then what is within is called"; "what comes is asked .., then written within": the inner one later. */
    private static void outerFirst() {
        String calls = "part t(f:fn(int)int):any=u(@f);part u(f:fn(any)int):any=f(1);part g(x):int=1;part main():any=t(g);";
        BlameCourt x = Court.judgedRun(calls.replace("@", ""), 0);
        Court.due("asked(1, 0) by the outer one", 1, x.asked(1, 0));
        Court.due("asked(0, 3) by the inner one", 1, x.asked(0, 3));
        x = Court.fails(3, 1, calls.replace("f(1)", "f(true)"));
        Court.due("asked(1, 0) by the outer one", 1, x.asked(1, 0));
        Court.due("asked(0, 3): the inner one is not come to", 0, x.asked(0, 3));
        String writes = "part t(r:[int]):any=u(@r);part u(r:[any]):any=r[0]:=1;part g():int=1;part main():any=let r:[any]=[0] in t(r);";
        x = Court.judgedRun(writes.replace("@", ""), 0);
        Court.due("asked(1, 0) by the outer one", 1, x.asked(1, 0));
        Court.due("asked(0, 3) by the inner one", 1, x.asked(0, 3));
        x = Court.fails(3, 1, writes.replace(":=1", ":=true"));
        Court.due("asked(1, 0) by the outer one", 1, x.asked(1, 0));
        Court.due("asked(0, 3): the inner one is not come to", 0, x.asked(0, 3));
    }

    /** "its VALUE is that E's, as it is guarded", not as it is written: what is written has been asked once more. */
    private static void writtenThrough() {
        String head = "part main():any=let r=[[1]] in let s:[[any]]=r in let a:any=2 in let v=new(1,a) in let w:any=";
        // s wraps r; what is written into r is a wrapping of v, what s[0]:=v gives is v alone
        BlameCourt x = Court.judgedRun(head + "1 in s[0]:=v;", 0);
        Court.due("told(6)", 0, x.told(6));
        Court.due("told(8): s, and what is written", 2, x.told(8));
        x = Court.judgedRun(head + "(s[0]:=v) in r[0];", 0);
        Court.due("told(6): what is read of r, and that it goes to any", 2, x.told(6));
        x = Court.judgedRun(head + "(s[0]:=v) in s[0];", 0);
        Court.due("told(6): and that it is read of s", 2, x.told(6));
        x = Court.judgedRun(head + "(s[0]:=v)[0] in {v[0]:=5;r[0][0]};", 0);
        Court.due("told(5): it is still v", 5, x.told(5));
        // what is guarded is given as it is guarded: a row of int goes into a row of any
        x = Court.judgedRun("part main():any=let r:[any]=[] in let s:[any]=new(1,r) in s[0]:=[7];", 0);
        Court.due("told(6)", 1, x.told(6));
        Court.due("told(8): s, and that", 2, x.told(8));
    }

    private static String lets(int many, int from) {
        StringBuilder b = new StringBuilder();
        for (int i = 0; i < many; i++) {
            b.append("let ").append(name(i)).append("=").append(from + i).append(" in ");
        }
        return b.toString();
    }

    private static String name(int i) {
        return "v" + (char) ('a' + i % 20) + (char) ('a' + i / 20);
    }

    private static String plusNames(int many) {
        StringBuilder b = new StringBuilder();
        for (int i = 0; i < many; i++) {
            b.append("+").append(name(i));
        }
        return b.toString();
    }

    /** "a PARAM in its PART; that of a let behind its in": each call has its own of them, and as many as there may be. */
    private static void namesOfCalls() {
        // around a call of f's are four params and 39 lets, in g there are four and 40; behind the call f's own are as they were
        String head = "(a:int,b:int,c:int,d:int):int=";
        String text = "part f" + head + lets(39, 100) + "g(5,6,7,8)*10000+a*b*c*d" + plusNames(39) + ";part g" + head + lets(40, 500) + "a*b*c*d"
            + plusNames(40) + ";part main():int=f(1,2,3,4);";
        int inner = 5 * 6 * 7 * 8;
        int outer = 2 * 3 * 4;
        for (int i = 0; i < 40; i++) {
            inner += 500 + i;
            outer += i < 39 ? 100 + i : 0;
        }
        gives(text, outer + 10000 * inner);
        // each of a hundred calls within one another
        String deep = "part f(a:int,b:int):int=let c=a*2 in let r=if a=1 then 0 else f(a-1,b+1) in r+a*c+b;part main():int=f(99,0);";
        int want = 0;
        for (int a = 1; a <= 99; a++) {
            want += a * a * 2 + 99 - a;
        }
        gives(deep, want);
    }
}
