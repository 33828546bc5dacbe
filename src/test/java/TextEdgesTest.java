import java.util.ArrayList;
import java.util.List;

/** Terms I and promises 4, 5 and 9, sentence by sentence: the last that is taken, the first that is refused, at its place. */
public final class TextEdgesTest {
    private static final int NONE = BlameCourt.NONE;
    private static final String F = "part f(a,b,c,d)=a;";

    public static void main(String[] args) {
        longestText();
        densestTexts();
        longTextsAgain();
        everyByte();
        letters();
        keywords();
        longestTokens();
        emptyLists();
        paramTwice();
        manyParts();
        manyParams();
        manyListed();
        manySigns();
        manyWaiting();
        manyBehind();
        manyOpen();
        closedAgain();
        manyOpenKinds();
        greatNumbers();
        partTwice();
        unknownNames();
        noMain();
        leastFault();
        emptiedTape();
        behindFaults();
        faultNumbers();
        partNumbers();
        Court.close();
    }

    private static void taken(int parts, String text) {
        BlameCourt x = new BlameCourt();
        Court.due("read of " + text, parts, Court.read(x, text));
        Court.due("fault(0) of " + text, 0, x.fault(0));
        Court.due("fault(1) of " + text, NONE, x.fault(1));
    }

    private static void takenE(String e) {
        taken(2, F + "part main()=" + e + ";");
    }

    private static void refusedE(int fault, String markedE) {
        Court.readFault(fault, F + "part main()=" + markedE + ";");
    }

    private static String many(String text, int times) {
        return text.repeat(times);
    }

    /** "TEXTS: up to 3,000 bytes." */
    private static void longestText() {
        String head = "part main()=1";
        String blanks = many(" ", 3000 - head.length() - 1);
        taken(1, head + blanks + ";");
        taken(1, head + ";" + blanks);
        Court.readFault(1, head + blanks + " ");
        Court.readFault(1, head + blanks + "@#");
        Court.readFault(7, "part Main()=1" + blanks + ";");
        String sum = "part main()={" + many("1+1;", 746) + "1};";
        taken(1, sum);
        Court.due("bytes", 3000, sum.length());
    }

    /** A text of just 3,000 bytes that says one thing again and again, and then gives the last one. */
    private static String dense(String again, String last) {
        StringBuilder b = new StringBuilder("part main():any={");
        while (b.length() + again.length() + last.length() + 3 <= 3000) {
            b.append(again).append(";");
        }
        b.append(last).append("};");
        return b + many("\n", 3000 - b.length());
    }

    /** Long texts are read to their ends, however much each of their bytes asks for; {what, the last one, its number}. */
    private static final String[][] DENSE = {{many("-", 39) + "1", "-7", "-7"}, {"1" + many("+1", 40), "3+4*5", "23"},
        {"1" + many("*-1", 40), "8/3-9%4", "1"}, {"[" + many("1,", 19) + "1]", "[1,2,3][2]", "3"}, {many("!", 38) + "true", "size([1,2])", "2"},
        {"if true then 1 else 2", "if 1<2 then 5 else 6", "5"}, {"let a=1 in a", "let a=9 in a-1", "8"}, {"[0][0]:=1", "[1,2][1]:=6", "6"},
        {many("(", 39) + "1" + many(")", 39), "((4))", "4"}, {"new(1,1)[0]", "new(2,5)[1]", "5"}};

    private static void densestTexts() {
        for (String[] d : DENSE) {
            String text = dense(d[0], d[1]);
            Court.due("bytes", 3000, text.length());
            gives(Court.readNew(text), text, Integer.parseInt(d[2]));
        }
    }

    private static void gives(BlameCourt x, String text, int want) {
        Court.due("judge of " + text, true, x.judge() > 0);
        Court.due("run of " + text, 0, x.run(20000));
        Court.due("told(5) of " + text, want, x.told(5));
        Court.due("runUntold of " + text, 0, x.runUntold(20000));
        Court.due("told(5) of " + text, want, x.told(5));
    }

    /** An object reads one long text after another as if each were its first; a call is not answered behind the 512th. */
    private static void longTextsAgain() {
        for (int i = 0; i < DENSE.length; i++) {
            BlameCourt x = new BlameCourt();
            for (int j = 0; j < 3; j++) {
                String[] d = DENSE[(i + j) % DENSE.length];
                String text = dense(d[0], d[1]);
                Court.due("read of " + text, 1, Court.read(x, text));
                gives(x, text, Integer.parseInt(d[2]));
            }
        }
        // a faulty one, too, leaves nothing behind in what is read next
        BlameCourt x = Court.readNew("part main():any=6;");
        String[] faulty = {dense(DENSE[0][0], "x"), dense(DENSE[1][0], "2147483648"), dense(DENSE[2][0], "#").trim()};
        for (String text : faulty) {
            Court.due("read of " + text, NONE, Court.read(x, text));
            gives(x, "what it had", 6);
        }
    }

    /** "blanks (32, 10) aside", "letters a .. z, A .. Z", "digits", "the signs": each byte where an E is due. */
    private static void everyByte() {
        for (int b = 0; b < 256; b++) {
            char c = (char) b;
            BlameCourt x = new BlameCourt();
            int got = Court.read(x, "part main()=" + c + ";");
            boolean digit = c >= '0' && c <= '9';
            boolean letter = c >= 'a' && c <= 'z' || c >= 'A' && c <= 'Z';
            boolean goesOn = c == ' ' || c == '\n' || c == '(' || c == '[' || c == '{' || c == '-' || c == '!';
            Court.due("read with byte " + b, digit ? 1 : NONE, got);
            Court.due("fault with byte " + b, digit ? 0 : letter ? 6 : 1, x.fault(0));
            Court.due("place with byte " + b, digit ? NONE : goesOn ? 13 : 12, x.fault(1));
        }
        for (int b = 0; b < 256; b++) {
            char c = (char) b;
            BlameCourt x = new BlameCourt();
            boolean blank = c == ' ' || c == '\n';
            boolean none = (c + "").matches("[^a-zA-Z0-9()\\[\\]{},;:=<+*/%! \n-]");
            int got = Court.read(x, "part" + c + "main()=1;");
            Court.due("part and main with byte " + b + " between", blank ? 1 : NONE, got);
            got = Court.read(x, "part main()=1;" + c);
            Court.due("a text with byte " + b + " behind it", blank ? 1 : NONE, got);
            Court.due("its place", blank ? NONE : 14, x.fault(1));
            Court.due("its fault", blank ? 0 : 1, x.fault(0));
            got = Court.read(x, "part main()=1" + c + "1;");
            boolean between = c >= '0' && c <= '9' || "+-*/%<=".indexOf(c) >= 0;
            Court.due("1 and 1 with byte " + b + " between", between ? 1 : NONE, got);
            if (none) {
                Court.due("its place", 13, x.fault(1));
            }
        }
    }

    /** "NAMES (letters .., 8 at most)"; "1 .. or is none (a NAME of more letters too)". */
    private static void letters() {
        String eight = "aZzAbYcX";
        taken(1 + 1, "part " + eight + "()=1;part main()=" + eight + "();");
        taken(1 + 1, "part f(" + eight + ")=" + eight + ";part main()=1;");
        taken(1, "part main()=let " + eight + "=1 in " + eight + ";");
        String nine = "@" + eight + "d";
        Court.readFault(1, "part " + nine + "()=1;part main()=1;");
        Court.readFault(1, "part f(" + nine + ")=1;part main()=1;");
        Court.readFault(1, "part main()=let " + nine + "=1 in 1;");
        Court.readFault(1, "part main()=" + nine + ";");
        Court.readFault(1, "part main()=1;" + nine);
        Court.readFault(1, "part main():" + nine + "=1;");
        // of nine letters the first ones do not count alone, nor the last ones
        Court.readFault(1, "part f()=1;part main()=@ffffffff" + "f;");
        Court.readFault(1, "@partmains()=1;");
        Court.readFault(1, "part main()=@truetruet;");
        Court.readFault(1, "part main()=@xxxxxtrue;");
        Court.readFault(1, "part main()=@" + many("f", 256) + ";");
        Court.readFault(1, "part main()=@" + many("m", 2000) + "ain;");
    }

    /** "KEYWORDS (part let in ..)": none of them is a NAME; with a letter more, less, or of the other case it is one. */
    private static void keywords() {
        String[] words = {"part", "let", "in", "if", "then", "else", "true", "false", "new", "size", "print", "int", "flag", "any", "fn"};
        for (String word : words) {
            Court.readFault(1, "part @" + word + "()=1;part main()=1;");
            Court.readFault(1, "part f(@" + word + ")=1;part main()=1;");
            Court.readFault(1, "part main()=let @" + word + "=1 in 1;");
            String great = word.toUpperCase();
            String first = great.charAt(0) + word.substring(1);
            for (String name : new String[] {word + "s", "x" + word, great, first, word + "S", word + word.charAt(0)}) {
                taken(2, "part " + name + "(a)=a;part main()=let a=" + name + " in " + name + "(a);");
            }
        }
        for (String name : new String[] {"par", "le", "i", "the", "els", "tru", "fals", "ne", "siz", "prin", "fla", "an", "f"}) {
            taken(2, "part " + name + "(" + name + ")=" + name + ";part main()=1;");
        }
    }

    /** "TOKENS .. the longest that begin there." */
    private static void longestTokens() {
        taken(1, "part main()=let a=[1]in a[0]:=2;");
        Court.readFault(1, "part main()=let a=[1]in a[0]@: =2;");
        Court.readFault(1, "part main()=let a@:=1 in a;");
        Court.readFault(1, "part main()@:=1;");
        Court.readFault(1, "part main(): @=1;");
        Court.readFault(1, "part f(a@:=1)=1;");
        Court.readFault(1, "part main()=let a=[1]in a[0]@:");
        takenE("1--1");
        takenE("1- - -1");
        takenE("let x=1in x");
        refusedE(1, "let x=1 @inx");
        refusedE(1, "1@a");
        refusedE(1, "f@1");
        refusedE(1, "f@1(2)");
        takenE("if true then 1else 2");
        refusedE(1, "if truethen@1");
        Court.readFault(1, "@partmain()=1;");
        takenE("00");
        refusedE(1, "0 @0");
    }

    /** "( [PARAM {, PARAM}] )", "fn ( [KIND {, KIND}] ) KIND", "( [E {, E}] )", "[ [E {, E}] ]", "{ E {; E} }": empty, one, and more. */
    private static void emptyLists() {
        taken(1, "part main()=1;");
        Court.readFault(1, "part main(@,)=1;");
        Court.readFault(1, "part f(a,@)=1;");
        Court.readFault(1, "part f(a@;");
        taken(1, "part main():fn()int=1;");
        Court.readFault(1, "part main():fn(@,)int=1;");
        Court.readFault(1, "part main():fn(int,@)int=1;");
        Court.readFault(1, "part main():fn(int)@=1;");
        Court.readFault(1, "part main():[@]=1;");
        takenE("f()");
        takenE("f(1)");
        refusedE(1, "f(@,1)");
        refusedE(1, "f(1,@)");
        takenE("[]");
        takenE("[1]");
        refusedE(1, "[@,1]");
        refusedE(1, "[1,@]");
        refusedE(1, "{@}");
        takenE("{1}");
        refusedE(1, "{@;1}");
        refusedE(1, "{1;@}");
        refusedE(1, "(@)");
        refusedE(1, "f[@]");
        refusedE(1, "new(@,1)");
        refusedE(1, "new(1@)");
        refusedE(1, "new(1,@)");
        refusedE(1, "new(1,1@,1)");
        refusedE(1, "size(@)");
        refusedE(1, "print(@)");
        refusedE(1, "f[0]:=@");
        refusedE(1, "f@:=1");
        refusedE(1, "f[0]()@:=1");
        refusedE(1, "(f[0])@:=1");
        takenE("f()[0]:=1");
        Court.readFault(7, "");
        // what must be opened is opened by just its own sign
        for (String other : new String[] {"1)", "[1)", "{1)", ")", "f)", ":(1)", "-(1)"}) {
            refusedE(1, "size @" + other);
            refusedE(1, "print @" + other);
            refusedE(1, "new @" + other.replace(")", ",1)"));
            Court.readFault(1, "part main @" + other + "=1;");
            Court.readFault(1, "part main():fn @" + other.replace("1", "int") + "int=1;");
        }
    }

    /** "2 NAME: a PARAM's for the second time in its PART." */
    private static void paramTwice() {
        Court.readFault(2, "part f(a,@a)=1;part main()=1;");
        Court.readFault(2, "part f(a:int,b,@a:int)=1;part main()=1;");
        Court.readFault(2, "part f(a,b,c,@c)=1;part main()=1;");
        Court.readFault(2, "part f(a,b,c,@a,e)=1;part main()=1;");
        Court.readFault(2, "part f(abcdefgh,@abcdefgh)=1;part main()=1;");
        taken(2, "part f(abcdefgh,abcdefgi,bbcdefgh,Abcdefgh)=1;part main()=1;");
        taken(2, "part f(a,aa,A,b)=1;part main()=1;");
        taken(3, "part f(a,b)=1;part g(b,a)=1;part main()=1;");
        taken(2, "part f(a,f)=let a=a in let a=f in a;part main()=1;");
        // at its NAME, ahead of all that comes behind
        Court.readFault(2, "part f(a,@a#");
        Court.readFault(2, "part f(a:[int],@a:)=1;");
    }

    private static String parts(int many) {
        StringBuilder b = new StringBuilder("part main()=1;");
        for (int i = 1; i < many; i++) {
            b.append("part p").append((char) ('a' + i / 26)).append((char) ('a' + i % 26)).append("()=main();");
        }
        return b.toString();
    }

    /** "3 too many: the 41st PART." */
    private static void manyParts() {
        taken(39, parts(39));
        taken(40, parts(40));
        Court.readFault(3, parts(40) + "@part q()=1;");
        Court.readFault(3, parts(40) + "@part main()=1;");
        Court.readFault(3, parts(40) + "@part#");
        Court.readFault(1, parts(40) + "@parts");
        BlameCourt x = Court.readNew(parts(40));
        Court.due("part(39, 4)", parts(39).length(), x.part(39, 4));
        Court.due("part(39, 0)", 1, x.part(39, 0));
        Court.due("part(40, 0)", NONE, x.part(40, 0));
        Court.due("tell(40)", false, x.tell(40, false));
        Court.due("tell(39)", true, x.tell(39, false));
        Court.due("part(39, 0)", 0, x.part(39, 0));
        Court.refusedRead(x, 3, parts(40) + "@part");
        Court.due("part(39, 0)", 0, x.part(39, 0));
        Court.due("read of 40", 40, Court.read(x, parts(40)));
        Court.due("part(39, 0), told anew", 1, x.part(39, 0));
    }

    /** "the .. 5th PARAM of a PART (of a KIND: at its first TOKEN)". */
    private static void manyParams() {
        String[] names = {"a", "b:int", "c:[any]", "d:fn(int,int,int,int)int"};
        for (int n = 0; n <= 4; n++) {
            taken(2, "part f(" + String.join(",", List.of(names).subList(0, n)) + ")=1;part main()=1;");
            String kinds = String.join(",", List.of("int", "[int]", "fn()int", "any").subList(0, n));
            taken(1, "part main():fn(" + kinds + ")int=1;");
            taken(2, "part f(a:fn(" + kinds + ")int)=1;part main()=1;");
            taken(1, "part main()=let a:[fn(" + kinds + ")int]=1 in 1;");
            BlameCourt x = Court.readNew("part f(" + String.join(",", List.of(names).subList(0, n)) + ")=1;part main()=1;");
            Court.due("part(0, 1)", n, x.part(0, 1));
        }
        Court.readFault(3, "part f(a,b,c,d,@e)=1;part main()=1;");
        Court.readFault(3, "part f(a,b,c,d, @e:");
        Court.readFault(3, "part main()=1;part f(a:int,b:int,c:int,d:int,@e:int)=1;");
        Court.readFault(1, "part f(a,b,c,d@;");
        Court.readFault(1, "part f(a,b,c,d,@int)=1;");
        for (String first : new String[] {"int", "flag", "any", "[", "fn"}) {
            Court.readFault(3, "part main():fn(int,int,int,int, @" + first);
            Court.readFault(3, "part f(a:[fn([int],int,int,int, @" + first);
            Court.readFault(3, "part main()=let a:fn(int,int,fn(int,int,int,int)int,int, @" + first);
        }
        Court.readFault(1, "part main():fn(int,int,int,int, @a)int=1;");
        Court.readFault(1, "part main():fn(int,int,int,int, @)int=1;");
        // more than four within one another, but of each no more
        taken(1, "part main():fn(fn(int,int,int,int)int,fn(int,int,int,int)int,fn(int,int,int,int)int,fn(int,int,int,int)int)int=1;");
        Court.readFault(3, "part main():fn(int,fn(int,int,int,int)int,int,int,@fn()int)int=1;");
    }

    /** "or E in ( ) of a call, 21st E of a ROW (at their first TOKEN)". */
    private static void manyListed() {
        for (int n = 1; n <= 20; n++) {
            takenE("[" + many("1,", n - 1) + "1]");
        }
        for (int n = 1; n <= 4; n++) {
            takenE("f(" + many("[1],", n - 1) + "1)");
            takenE("f(1)(" + many("f(1,2,3,4),", n - 1) + "1)");
        }
        String[] firsts = {"1", "2147483648", "true", "false", "f", "nowhere", "[", "(", "{", "new", "size", "print", "let", "if", "-", "!"};
        for (String first : firsts) {
            refusedE(3, "f(1,2,3,4, @" + first);
            refusedE(3, "f[1]( 1, 2, 3, 4, @" + first);
            refusedE(3, "[" + many("1,", 20) + "\n@" + first);
            refusedE(3, "f([" + many("f(1,2,3,4),", 20) + "@" + first);
        }
        for (String first : new String[] {")", "]", "}", ",", ";", ":", ":=", "=", "<", "+", "*", "/", "%", "then", "in", "int", "part",
            "#", "abcdefghi"}) {
            refusedE(1, "f(1,2,3,4,@" + first);
            refusedE(1, "[" + many("1,", 20) + "@" + first);
        }
        refusedE(1, "f(1,2,3,4@;");
        refusedE(1, "[" + many("1,", 19) + "1@;");
    }

    /** "the 41st sign of one S or T .. (at it)". */
    private static void manySigns() {
        String sum = "1" + many("+1-1", 20);
        String product = "1" + many("*1/1", 18) + "%1*1%1/1";
        takenE(sum);
        takenE(product);
        for (String sign : new String[] {"+", "-"}) {
            refusedE(3, sum + "@" + sign + "1");
            refusedE(3, sum + " @" + sign);
            refusedE(3, "1=" + sum + "@" + sign + "1");
            refusedE(3, "(" + sum + "@" + sign + "1)");
            refusedE(3, "f[0]:=" + sum + "@" + sign + "1");
            takenE("(" + sum + ")" + sign + "1");
            takenE("f[" + sum + "]" + sign + sum.substring(2));
            takenE(sum.substring(2) + sign + "(" + sum + ")");
        }
        for (String sign : new String[] {"*", "/", "%"}) {
            refusedE(3, product + "@" + sign + "1");
            refusedE(3, "1+" + product + "@" + sign + "1");
            refusedE(3, product + "-" + product + "@" + sign + "#");
            takenE("(" + product + ")" + sign + "1");
            takenE(sum + sign + product.substring(2));
        }
        takenE(sum + "<" + sum);
        takenE(sum + "=" + sum);
        refusedE(1, "1<1@<1");
        refusedE(1, "1=1@<1");
        refusedE(1, "1<1@=1");
        takenE("(1<1)=(1<1)");
        StringBuilder full = new StringBuilder(product);
        for (int i = 0; i < 40; i++) {
            full.append(i % 2 == 0 ? "+" : "-").append(i < 8 ? product : "1*1");
        }
        takenE(full.toString());
        refusedE(3, full + "@+1");
        // - as U is no sign of an S
        takenE("-1" + many("--1", 40));
        refusedE(3, "-1" + many("--1", 40) + "@--1");
        takenE("1" + many("*-1", 40));
    }

    /** As many open around one another as may be, and of each a sign of C, of S and of T that waits for what is within. */
    private static void manyWaiting() {
        String head = "part f(b:flag):int=if b then 3 else 5;part main():flag=";
        for (int turn = 0; turn < 5; turn++) {
            StringBuilder before = new StringBuilder();
            int[] left = new int[41];
            for (int i = 0; i < 41; i++) {
                left[i] = (i * 7 + turn * 3) % 11 + 4;
                before.append(left[i]).append(i % 2 == 0 ? "<" : "=").append(i % 3).append("+").append(1 + i % 4).append("*");
                before.append(i < 40 ? "f(" : "2");
            }
            int product = 2;
            boolean truth = false;
            for (int i = 40; i >= 0; i--) {
                int right = i % 3 + (1 + i % 4) * product;
                truth = i % 2 == 0 ? left[i] < right : left[i] == right;
                product = truth ? 3 : 5;
            }
            BlameCourt x = Court.judged(head + before + many(")", 40) + ";");
            Court.due("guards", 0, x.about(3));
            Court.due("run", 0, x.run(20000));
            Court.due("told(4)", 1, x.told(4));
            Court.due("told(5)", truth ? 1 : 0, x.told(5));
            // at each three signs, three numbers, a call and its f, and three within that; the inmost has three signs and four numbers
            Court.due("told(3)", 40 * (3 + 3 + 2 + 3) + 3 + 4, x.told(3));
        }
    }

    /** "the 41st ( or [ behind one B (at it)". */
    private static void manyBehind() {
        for (String b : new String[] {"f", "1", "(f)", "[1]", "{f}", "new(1,2)", "size(1)", "print(1)", "true"}) {
            for (String one : new String[] {"()", "[1]", "(1)", "[f()]"}) {
                takenE(b + many(one, 39));
                takenE(b + many(one, 40));
                refusedE(3, b + many(one, 40) + "@()");
                refusedE(3, b + many(one, 40) + "@[1]");
                refusedE(3, b + many(one, 40) + " @(#");
            }
        }
        takenE("f" + many("()[0]", 20) + "+f" + many("()[0]", 20));
        takenE("f" + many("[0]", 40) + ":=f" + many("[0]", 40) + ":=1");
        refusedE(3, "f[0]:=f" + many("[0]", 40) + "@[0]:=1");
        refusedE(1, "f" + many("()", 40) + "@:=1");
    }

    private static final String[][] OPENERS = {{"(", ")"}, {"[", "]"}, {"{", "}"}, {"-", ""}, {"!", ""}, {"f(", ")"}, {"f[", "]"},
        {"f[0]:=", ""}, {"size(", ")"}, {"print(", ")"}, {"new(", ",1)"}, {"new(1,", ")"}, {"let a=", " in 1"}, {"let a=1 in ", ""},
        {"if ", " then 1 else 1"}, {"if 1 then ", " else 1"}, {"if 1 then 1 else ", ""}};
    /** The first openers, that may stand behind a - or ! as well. */
    private static final int ANYWHERE = 12;

    /** Where the sign is that an opener opens: its first ( or [ , or else its first token. */
    private static String marked(String opener) {
        int at = Math.max(opener.indexOf('('), opener.indexOf('['));
        return opener.startsWith("let") || opener.startsWith("if") || at < 0 ? "@" + opener : opener.substring(0, at) + "@" + opener.substring(at);
    }

    /** "the 41st ( [ { := let if fn - ! of those that are open around one another (at it ..)": each within 39 and 40 of each. */
    private static void manyOpen() {
        for (int outer = 0; outer < OPENERS.length; outer++) {
            String[] o = OPENERS[outer];
            int fit = o[0].equals("-") || o[0].equals("!") ? ANYWHERE : OPENERS.length;
            for (int inner = 0; inner < fit; inner++) {
                String[] i = OPENERS[inner];
                takenE(many(o[0], 39) + i[0] + "1" + i[1] + many(o[1], 39));
                refusedE(3, many(o[0], 40) + marked(i[0]) + "1");
            }
            takenE(many(o[0], 40) + "1" + many(o[1], 40));
            takenE(many(o[0], 40) + "f+1*2<3-4".substring(0, fit == ANYWHERE ? 1 : 9) + many(o[1], 40));
        }
        // each kind of them at once
        StringBuilder before = new StringBuilder();
        List<String> behind = new ArrayList<>();
        for (int i = 0; i < 40; i++) {
            String[] o = OPENERS[i * 5 % OPENERS.length];
            boolean prefix = o[0].equals("-") || o[0].equals("!");
            before.append(prefix ? "(" : o[0]);
            behind.add(0, prefix ? ")" : o[1]);
        }
        takenE(before + "1" + String.join("", behind));
        for (String[] o : OPENERS) {
            refusedE(3, before + marked(o[0]));
        }
    }

    /** "let, if and := are open to the end of their last E .. - and ! (as U) to that of their U": then they are so no more. */
    private static void closedAgain() {
        for (String[] o : OPENERS) {
            String one = o[0] + "1" + o[1];
            takenE("{" + many(one + ";", 60) + many("(", 39) + "1" + many(")", 39) + "}");
            refusedE(3, "{" + many(one + ";", 60) + many("(", 39) + "@(1");
            taken(3, F + "part g()=" + one + ";part main()=" + many("(", 40) + "1" + many(")", 40) + ";");
        }
        // - and ! end ahead of a sign, let, if and := do not
        takenE("-1+" + many("(", 40) + "1" + many(")", 40));
        takenE("!1<" + many("(", 40) + "1" + many(")", 40));
        takenE("-f(1)*" + many("(", 40) + "1" + many(")", 40));
        refusedE(3, "-f" + many("(", 39) + "@(1");
        takenE("f[0]:=1+" + many("(", 39) + "1" + many(")", 39));
        refusedE(3, "f[0]:=1+" + many("(", 39) + "@(1");
        refusedE(3, "let a=1 in 1+" + many("(", 39) + "@(1");
        refusedE(3, "if 1 then 1 else 1+" + many("(", 39) + "@(1");
        refusedE(3, "if 1 then 1+" + many("(", 39) + "@(1");
        refusedE(3, "if 1+" + many("(", 39) + "@(1");
        refusedE(3, "let a=1+" + many("(", 39) + "@(1");
        takenE("f[1]+" + many("(", 40) + "1" + many(")", 40));
        takenE("f(1)[1]+" + many("[", 40) + "1" + many("]", 40));
    }

    /** "also those of KINDS and headers; .. fn to that of its last KIND". */
    private static void manyOpenKinds() {
        taken(2, "part f(a:" + many("[", 39) + "int" + many("]", 39) + ",b:" + many("[", 39) + "int" + many("]", 39) + ")=1;part main()=1;");
        Court.readFault(3, "part f(a:" + many("[", 39) + "@[");
        Court.readFault(3, "part f(a:int,b:" + many("[", 39) + "@fn");
        taken(1, "part main():" + many("[", 40) + "int" + many("]", 40) + "=" + many("(", 40) + "1" + many(")", 40) + ";");
        Court.readFault(3, "part main():" + many("[", 40) + "@[");
        Court.readFault(3, "part main():" + many("[", 40) + "@fn");
        Court.readFault(3, "part main():" + many("[", 39) + "fn@(");
        taken(1, "part main():" + many("[", 38) + "fn()int" + many("]", 38) + "=1;");
        taken(1, "part main():" + many("fn(int,any)", 39) + "int=1;");
        Court.readFault(3, "part main():" + many("fn()", 39) + "fn@()int=1;");
        Court.readFault(3, "part main():" + many("fn()", 39) + "[@[int");
        taken(1, "part main():" + many("fn(int,", 20) + "int" + many(")int", 20) + "=1;");
        Court.readFault(3, "part main():" + many("fn(int,", 20) + "@[int");
        Court.readFault(3, "part main():" + many("fn(int,", 20) + "@fn");
        // what is closed in a KIND, and a header, is open no more
        taken(1, "part main():fn([int],[int],fn()int,fn()int)" + many("[", 39) + "int" + many("]", 39) + "=1;");
        Court.readFault(3, "part main():fn([int],[int],fn()int,fn()int)" + many("[", 39) + "@[");
        taken(1, "part main():[fn(fn([int])[int])fn()int]=" + many("-", 40) + "1;");
        taken(2, "part f(a:fn([int],[int])int,b:[[fn()int]])=" + many("-", 40) + "1;part main()=" + many("!", 40) + "1;");
        String kinds = "let a:fn([[int]],fn()int)[fn()int]=1 in ";
        takenE(many(kinds, 36) + "1");
        refusedE(3, many(kinds, 36) + "let a:fn([@[");
        refusedE(3, many(kinds, 36) + "let a:fn([int],fn@(");
        refusedE(3, many(kinds, 36) + "let a:fn([int])[fn@(");
        taken(2, "part f(a:" + many("fn()", 38) + "int,b:" + many("fn()", 38) + "int)=1;part main()=1;");
        Court.readFault(3, "part f(a:" + many("fn()", 38) + "fn@(");
    }

    /** "4 a NUMBER above 2147483647." */
    private static void greatNumbers() {
        for (String good : new String[] {"0", "00", "2147483646", "2147483647", "0002147483647", many("0", 500) + "2147483647"}) {
            takenE(good);
            takenE("[1," + good + "]");
            takenE("-" + good);
        }
        for (String high : new String[] {"2147483648", "2147483650", "2147483700", "3000000000", "4294967295", "4294967296", "9999999999",
            "21474836470", "9223372036854775807", "9223372036854775808", "18446744073709551616", "18446744073709551617",
            "36893488147419103233", many("9", 1000), many("0", 500) + "2147483648"}) {
            refusedE(4, "@" + high);
            refusedE(4, "-@" + high);
            refusedE(4, "f(1,@" + high + "#");
            refusedE(1, "f @" + high);
        }
        BlameCourt x = Court.readNew("part main():int=02147483647;");
        x.runUntold(1);
        Court.due("the greatest", 2147483647, x.told(5));
    }

    /** "5 a PART's NAME for the second time". */
    private static void partTwice() {
        Court.readFault(5, "part main()=1;part @main()=1;");
        Court.readFault(5, "part main()=1;part @main(a)=1;");
        Court.readFault(5, "part f()=1;part main()=1;part @f()=1;part main()=1;");
        Court.readFault(5, "part f()=1;part @f()=1;part f()=1;");
        Court.readFault(5, "part abcdefgh()=1;part abcdefgi()=1;part main()=1;part @abcdefgh()=1;");
        taken(3, "part abcdefgh()=1;part abcdefgi()=1;part main()=1;");
        taken(3, "part f()=1;part F()=1;part main()=1;");
        taken(2, "part f(f)=f;part main()=let main=1 in let f=main in f;");
        Court.readFault(5, parts(39) + "part @pbm()=1;");
    }

    /** "NAMES of PARTS are known in the whole text; a PARAM in its PART; that of a let behind its in." "6 a NAME of an E that isn't known". */
    private static void unknownNames() {
        taken(2, "part main()=f;part f()=main;");
        taken(1, "part main()=main;");
        Court.readFault(6, "part main()=@f;");
        Court.readFault(6, "part main()=@mai;");
        Court.readFault(6, "part main()=@mainn;");
        Court.readFault(6, "part f(a)=a;part main()=@a;");
        Court.readFault(6, "part main()=@a;part f(a)=a;");
        Court.readFault(6, "part main()=let a=@a in a;");
        Court.readFault(6, "part main()=let a=1 in let b=a in {b;@c};");
        Court.readFault(6, "part main()={let a=1 in a;@a};");
        Court.readFault(6, "part main()=[let a=1 in a,@a];");
        Court.readFault(6, "part main()=if let a=1 in 1=1 then @a else a;");
        Court.readFault(6, "part main()=(let a=1 in let b=2 in a)+@b;");
        Court.readFault(6, "part main()=let a=(let b=1 in b) in @b;");
        taken(1, "part main()=let a=(let a=1 in a) in let a=a in a;");
        taken(2, "part f(a)={let a=1 in a;a};part main()=1;");
        for (String e : new String[] {"(@x)", "{@x}", "-@x", "!@x", "[@x]", "f(@x)", "@x(1)", "@x[1]", "f[@x]", "f[1]:=@x", "1+@x", "1*@x",
            "1<@x", "new(@x,1)", "new(1,@x)", "size(@x)", "print(@x)", "if @x then 1 else 2", "if 1 then @x else 2", "if 1 then 2 else @x",
            "let a=@x in 1", "let a:int=1 in @x"}) {
            refusedE(6, e);
        }
        // names of a former text are known no more, wherever they stood in it
        BlameCourt x = new BlameCourt();
        for (String name : new String[] {"k", "l", "m", "a", "v"}) {
            for (int twice = 0; twice < 2; twice++) {
                Court.due("read", 4, Court.read(x, "part main()=1;part k()=1;part l(a)=let v=a in v;part m()=1;"));
            }
            for (int parts = 1; parts < 4; parts++) {
                String few = "part main()=" + name + ";" + many("part o()=1;", parts - 1).replace("o()=1;part o", "o()=1;part p");
                Court.due("read of " + few, NONE, Court.read(x, few));
                Court.due("fault(0) of " + few, 6, x.fault(0));
                Court.due("fault(1) of " + few, 12, x.fault(1));
            }
        }
        // the first of these two kinds in the text
        Court.readFault(6, "part f()=@x;part f()=y;");
        Court.readFault(5, "part f()=1;part @f()=x;");
        Court.readFault(6, "part f()=1;part main()={f;@x};part f()=1;");
        Court.readFault(5, "part f()=1;part @f(x)=x;part main()=x;");
    }

    /** "7 no PART main without PARAMS (at the length)." */
    private static void noMain() {
        Court.readFault(7, "");
        Court.readFault(7, " ");
        Court.readFault(7, "\n\n\n");
        Court.readFault(7, "part f()=1;");
        Court.readFault(7, "part main(a)=1;");
        Court.readFault(7, "part main(a,b,c,d)=1; \n");
        Court.readFault(7, "part mainn()=1;part mai()=1;part Main()=1;part MAIN()=1;");
        Court.readFault(7, "part f(main)=let main=1 in main;");
        taken(40, parts(40).replace("main()=1", "zz()=1").replace("=main()", "=1").replace("part pbn", "part main"));
        // 5 and 6 ahead of it, since they stand in the text
        Court.readFault(6, "part f()=@main;");
        Court.readFault(5, "part f()=1;part @f()=1;");
    }

    /** "the first as TOKENS are come to, at the TOKEN (its end is one, at the length); of one TOKEN the least". */
    private static void leastFault() {
        Court.readFault(2, "part f(a,b,c,d,@a)=1;");
        Court.readFault(2, "part f(a,b,c,d,@d)=1;");
        Court.readFault(3, "part f(a,b,c,d,@f)=1;");
        refusedE(3, "f(1,2,3,4,@9999999999");
        refusedE(3, "[" + many("1,", 20) + "@9999999999");
        refusedE(1, "1 @9999999999");
        refusedE(1, many("(", 40) + "1@{");
        refusedE(1, many("(", 40) + "1+@if");
        refusedE(1, many("(", 39) + "-@let");
        refusedE(1, many("(", 39) + "!@if");
        refusedE(1, many("(", 40) + "f @:=");
        refusedE(1, many("(", 40) + "@fn");
        Court.readFault(1, "part main()=f;part f()=f;part f()=g;@(");
        Court.readFault(1, "part f()=x;part f()=1");
        Court.readFault(4, "part f()=x;part f()=[@2147483648#");
        Court.readFault(3, "part f()=x;part f(a,b,c,d,@e,#");
        Court.readFault(2, "part f()=x;part f(a,@a,#");
    }

    /** "The tape (empty then) becomes the program"; "it has a FAULT (the tape is empty then, too)". */
    private static void emptiedTape() {
        BlameCourt x = new BlameCourt();
        Court.due("read", 1, Court.read(x, "part main()=1;"));
        Court.due("about(0)", 0, x.about(0));
        Court.due("read of the tape that it left", NONE, x.read());
        Court.due("fault(0)", 7, x.fault(0));
        Court.due("fault(1)", 0, x.fault(1));
        Court.due("about(1): the former one stays", 1, x.about(1));
        Court.due("read", NONE, Court.read(x, "part main()=1;#"));
        Court.due("fault(1)", 14, x.fault(1));
        Court.due("about(0)", 0, x.about(0));
        Court.due("end(1)", NONE, x.end(1));
        Court.due("read of the tape that it left", NONE, x.read());
        Court.due("fault(0)", 7, x.fault(0));
        Court.due("fault(1)", 0, x.fault(1));
        Court.due("read", 2, Court.read(x, "part f()=1;part main()=1;"));
        Court.due("about(1)", 2, x.about(1));
    }

    /** "the former one stays, with all that is told of it", whatever FAULT the new text has; and the next text is read as if alone. */
    private static void behindFaults() {
        String[] faulty = {"7", "1@#", "1part f(a:fn(int,[fn(int,", "2part f(a,@a)=1;", "3" + parts(40) + "@part q()=1;",
            "3part f(a,b,c,d,@e)=1;", "1part f(@part f(", "3part main()=" + many("(", 40) + "@(", "1part main()=" + many("[1+2*", 40) + "@;",
            "3part main()=" + many("let a=1 in ", 40) + "@let", "1part main()=1+2*3<4+5*@#", "4part main()=@9999999999;",
            "5part main()=1;part @main()=2;", "6part main()=@x;", "7part f()=1;", "3part main():" + many("fn(int,int,", 20) + "@[",
            "1part abcdefgh(a,b,c,d)=let x=1 in let y=2 in"};
        for (String numbered : faulty) {
            int fault = numbered.charAt(0) - '0';
            String text = numbered.substring(1);
            BlameCourt x = Court.judged("part f(x)={print(4);x};part main():int=f(3);");
            x.run(100);
            Court.refusedRead(x, fault, text);
            Court.due("about(2)", 1, x.about(2));
            Court.due("run as it was", 0, x.run(100));
            x.tell(1, false);
            Court.refusedRead(x, fault, text);
            Court.due("about(2)", 0, x.about(2));
            Court.due("part(1, 0)", 0, x.part(1, 0));
            Court.due("out(0)", 4, x.out(0));
            Court.due("run when not judged", NONE, x.run(10));
            Court.due("runUntold", 0, x.runUntold(100));
            for (int round = 0; round < 3; round++) {
                Court.refusedRead(x, fault, text);
                Court.due("read of forty within one another behind " + text, 3,
                    Court.read(x, "part f(a:fn([int],fn(int,int,int,flag)any)int,b)=b;part g(a)=a;part main():int=" + many("(", 40)
                        + "1+2*3" + many(")", 40) + ";"));
                Court.due("judge", 0, x.judge());
                Court.due("run", 0, x.run(100));
                Court.due("told(5)", 7, x.told(5));
                Court.due("told(3)", 45, x.told(3));
            }
        }
    }

    /** "Of the latest read() or judge(): 0 its FAULT (0 without), 1 its place (NONE without). NONE for others, and ahead of any." */
    private static void faultNumbers() {
        BlameCourt x = new BlameCourt();
        faults(x, NONE, NONE);
        Court.put(x, "part main():int=true;");
        faults(x, NONE, NONE);
        x.read();
        faults(x, 0, NONE);
        x.judge();
        faults(x, 9, 16);
        x.runUntold(10);
        faults(x, 9, 16);
        x.tell(0, false);
        faults(x, 9, 16);
        x.judge();
        faults(x, 0, NONE);
        Court.put(x, "  #");
        faults(x, 0, NONE);
        x.read();
        faults(x, 1, 2);
        x.judge();
        faults(x, 0, NONE);
        x.read();
        faults(x, 7, 0);
        Court.read(x, "part main()=1;");
        faults(x, 0, NONE);
        BlameCourt y = new BlameCourt();
        Court.read(y, "part main()=x;");
        faults(y, 6, 12);
        y.judge();
        faults(y, 0, NONE);
    }

    private static void faults(BlameCourt x, int fault, int place) {
        Court.due("fault(0)", fault, x.fault(0));
        Court.due("fault(1)", place, x.fault(1));
        for (int what : new int[] {Integer.MIN_VALUE, -2, -1, 2, 3, 9, Integer.MAX_VALUE}) {
            Court.due("fault(" + what + ")", NONE, x.fault(what));
        }
    }

    /** "Of PART k: 0 whether it is told .., 100 + i: byte i of its NAME. NONE for others." */
    private static void partNumbers() {
        BlameCourt x = Court.readNew("\n part  abcdefgh(a,b)=1;part m(a,b,c,d)=1;part\nmain():int=1; ");
        int[][] want = {{1, 2, 8, NONE, 2}, {1, 4, 1, NONE, 24}, {1, 0, 4, NONE, 42}};
        String[] names = {"abcdefgh", "m", "main"};
        for (int round = 0; round < 2; round++) {
            for (int k = 0; k < 3; k++) {
                for (int what = 0; what <= 4; what++) {
                    int due = what == 3 && round == 1 ? (k == 2 ? 0 : 1) : want[k][what];
                    Court.due("part(" + k + ", " + what + ")", due, x.part(k, what));
                }
                for (int what : new int[] {Integer.MIN_VALUE, -1, 5, 6, 50, 98, 99, 109, 200, 356, Integer.MAX_VALUE}) {
                    Court.due("part(" + k + ", " + what + ")", NONE, x.part(k, what));
                }
                for (int i = 0; i <= 8; i++) {
                    Court.due("byte " + i, i < names[k].length() ? names[k].charAt(i) : NONE, x.part(k, 100 + i));
                }
            }
            for (int k : new int[] {Integer.MIN_VALUE, -1, 3, 4, 39, 40, Integer.MAX_VALUE}) {
                for (int what : new int[] {0, 1, 2, 3, 4, 100}) {
                    Court.due("part(" + k + ", " + what + ")", NONE, x.part(k, what));
                }
            }
            x.judge();
        }
        Court.due("part(2, 3) judged", 0, x.part(2, 3));
        x.tell(2, true);
        Court.due("part(2, 3) told", NONE, x.part(2, 3));
    }
}
