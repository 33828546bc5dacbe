import java.util.ArrayList;
import java.util.List;

/** Terms II and promises 5 to 9, sentence by sentence: what just fits and what just doesn't, and what a refused call leaves. */
public final class KindEdgesTest {
    private static final int NONE = BlameCourt.NONE;
    private static final int INT = 1;
    private static final int FLAG = 2;
    private static final int ANY = 3;

    public static void main(String[] args) {
        likeAndFit();
        allPairs();
        deepest();
        codesWrap();
        whatMustFit();
        alikeOrMixed();
        numbersOfValues();
        takers();
        firstFault();
        guardOrder();
        anyStands();
        untoldKinds();
        tellBounds();
        judgeRefuses();
        guardBounds();
        mostNames();
        besideOthers();
        mostKinds();
        kindsOfFormerTexts();
        Court.close();
    }

    /** The code of a kind, from its text. */
    private static int code(String kind) {
        return new KindText(kind).code();
    }

    private static final class KindText {
        private final String text;
        private int at = 0;

        KindText(String text) {
            this.text = text;
        }

        int code() {
            if (text.startsWith("int", at)) {
                at += 3;
                return 1;
            }
            if (text.startsWith("flag", at)) {
                at += 4;
                return 2;
            }
            if (text.startsWith("any", at)) {
                at += 3;
                return 3;
            }
            if (text.charAt(at) == '[') {
                at++;
                int of = code();
                at++;
                return 5 * of + 4;
            }
            at += 3;
            List<Integer> codes = new ArrayList<>();
            while (text.charAt(at) != ')') {
                at += text.charAt(at) == ',' ? 1 : 0;
                codes.add(code());
            }
            at++;
            int code = 7 + codes.size();
            for (int c : codes) {
                code = 31 * code + c;
            }
            return 31 * code + code();
        }
    }

    /** What gives the one kind goes where the other one is due: 0 alike, 1 it fits and is guarded, 9 it doesn't. */
    private static void pair(String from, String to, int want) {
        String text = "part f():" + from + "=f();part main():" + to + "=@f();";
        if (want == 9) {
            Court.judgeFault(9, text);
            return;
        }
        BlameCourt x = Court.readNew(text.replace("@", ""));
        Court.due("judge of " + text, want, x.judge());
        Court.due("about(3) of " + text, want, x.about(3));
        if (want == 1) {
            guard(x, 0, text.indexOf('@'), 1, 1, code(from), code(to));
        }
        Court.due("guard behind the last of " + text, NONE, x.guard(want, 0));
    }

    private static void guard(BlameCourt x, int i, int place, int giver, int taker, int from, int to) {
        int[] want = {place, giver, taker, from, to};
        for (int what = 0; what < 5; what++) {
            Court.due("guard(" + i + ", " + what + ")", want[what], x.guard(i, what));
        }
    }

    /** "Two are LIKE if they are the same; they FIT if they are the same, or one is ANY, or both ROWS .., or FUNCTIONS of as many ..". */
    private static void likeAndFit() {
        String[][] fit = {{"any", "int"}, {"any", "flag"}, {"any", "[int]"}, {"any", "[any]"}, {"any", "fn()int"}, {"any", "fn(any)any"},
            {"[any]", "[int]"}, {"[any]", "[[int]]"}, {"[[any]]", "[[int]]"}, {"[any]", "[fn(int)int]"}, {"fn()any", "fn()int"},
            {"fn(any)int", "fn(int)any"}, {"fn(any)any", "fn([int])fn()flag"}, {"fn(int,any)any", "fn(any,flag)int"},
            {"fn([any])fn()int", "fn([int])fn()any"}, {"[fn(any)flag]", "[fn(int)flag]"}, {"fn(int,int,int,any)int", "fn(int,int,int,int)int"},
            {"fn(fn(any)int)int", "fn(fn(int)any)int"}};
        String[][] not = {{"int", "flag"}, {"int", "[int]"}, {"int", "[any]"}, {"int", "fn()int"}, {"flag", "[flag]"}, {"flag", "fn()any"},
            {"[int]", "[flag]"}, {"[any]", "fn()any"}, {"[[int]]", "[int]"}, {"[[any]]", "[int]"}, {"[[[any]]]", "[[int]]"},
            {"fn()int", "fn(int)int"}, {"fn()any", "fn(any)any"}, {"fn(any)any", "fn(any,any)any"}, {"fn(any,any,any)any", "fn(any,any,any,any)any"},
            {"fn(int)int", "fn(flag)int"}, {"fn(int)int", "fn(int)flag"}, {"fn(any,int)any", "fn(int,flag)any"}, {"fn(int,any)any", "fn(flag,any)any"},
            {"fn(int,int,int,int)int", "fn(int,int,int,flag)int"}, {"[fn()int]", "[fn(int)int]"}, {"fn(fn()any)any", "fn(fn(any)any)any"},
            {"fn()fn()any", "fn()fn(any)any"}, {"fn([int])any", "fn([flag])any"}, {"fn()[int]", "fn()int"}};
        for (String[] p : fit) {
            pair(p[0], p[1], 1);
            pair(p[1], p[0], 1);
            pair(p[0], p[0], 0);
            pair(p[1], p[1], 0);
        }
        for (String[] p : not) {
            pair(p[0], p[1], 9);
            pair(p[1], p[0], 9);
            pair(p[0], p[0], 0);
            pair(p[1], p[1], 0);
            pair(p[0], "any", 1);
            pair("any", p[1], 1);
        }
    }

    private static void allPairs() {
        List<Oracle.Kind> kinds = new ArrayList<>(List.of(Oracle.INT, Oracle.FLAG, Oracle.ANY));
        for (int round = 0; round < 2; round++) {
            List<Oracle.Kind> some = new ArrayList<>(kinds);
            for (int i = 0; i < some.size() && kinds.size() < 90; i++) {
                Oracle.Kind k = some.get(i);
                Oracle.Kind other = some.get((i * 7 + 1) % some.size());
                kinds.add(Oracle.row(k));
                kinds.add(new Oracle.Kind('f', List.of(), k));
                kinds.add(new Oracle.Kind('f', List.of(k), other));
                kinds.add(new Oracle.Kind('f', List.of(other), k));
                kinds.add(new Oracle.Kind('f', List.of(k, other), Oracle.INT));
                kinds.add(new Oracle.Kind('f', List.of(other, k), Oracle.ANY));
            }
        }
        for (Oracle.Kind a : kinds) {
            for (Oracle.Kind b : kinds) {
                pair(Programs.text(a), Programs.text(b), a.like(b) ? 0 : a.fits(b) ? 1 : 9);
            }
        }
        // all at once in one text, as kinds of one program
        StringBuilder text = new StringBuilder("part main()={0");
        StringBuilder parts = new StringBuilder();
        int guards = 1;
        for (int i = 0; i < 39; i++) {
            Oracle.Kind a = kinds.get(i * 2);
            Oracle.Kind b = kinds.get((i * 5 + 3) % kinds.size());
            String name = "p" + (char) ('a' + i / 26) + (char) ('a' + i % 26);
            parts.append("part ").append(name).append("():").append(Programs.text(a)).append("=").append(name).append("();");
            if (a.fits(b)) {
                text.append(";let x:").append(Programs.text(b)).append("=").append(name).append("() in 0");
                guards += a.like(b) ? 0 : 1;
            }
        }
        BlameCourt x = Court.judged(text + "};" + parts);
        Court.due("guards of all", guards, x.about(3));
    }

    private static String many(String text, int times) {
        return text.repeat(times);
    }

    /** Kinds as deep as a text may have them. */
    private static void deepest() {
        String[] inmost = {"int", "flag", "any"};
        for (String a : inmost) {
            for (String b : inmost) {
                int want = a.equals(b) ? 0 : a.equals("any") || b.equals("any") ? 1 : 9;
                pair(many("[", 40) + a + many("]", 40), many("[", 40) + b + many("]", 40), want);
                pair(many("fn()", 39) + a, many("fn()", 39) + b, want);
                pair(many("fn(", 20) + a + many(")int", 20), many("fn(", 20) + b + many(")int", 20), want);
                pair(many("fn(int,flag,any,", 20) + a + many(")int", 20), many("fn(int,flag,any,", 20) + b + many(")int", 20), want);
                pair(many("fn(int,[", 13) + a + many("])int", 13), many("fn(int,[", 13) + b + many("])int", 13), want);
            }
        }
        pair(many("[", 40) + "any" + many("]", 40), many("[", 39) + "any" + many("]", 39), 1);
        pair(many("[", 40) + "any" + many("]", 40), many("[", 39) + "int" + many("]", 39), 9);
        // a part of forty within one another in its header has a kind that is one deeper
        String deep = many("fn(", 19) + "any" + many(")int", 19);
        BlameCourt x = Court.judged("part f(a:" + deep + ")=f;part main():any=f;");
        guard(x, 0, ("part f(a:" + deep + ")=").length(), 0, 0, code("fn(" + deep + ")any"), ANY);
    }

    /** "(.. 31 times that and its CODE; 32 bits)". */
    private static void codesWrap() {
        String five = "fn(int,flag,any,[int])fn(flag)any";
        Court.due("a code by hand", ((((11 * 31 + 1) * 31 + 2) * 31 + 3) * 31 + 9) * 31 + (8 * 31 + 2) * 31 + 3, code(five));
        pair("any", five, 1);
        long row = 1;
        for (int rows = 1; rows <= 40; rows++) {
            row = 5 * row + 4;
            String kind = many("[", rows) + "int" + many("]", rows);
            Court.due("a code as its lowest 32 bits, " + rows, (int) row, code(kind));
            pair("any", kind, 1);
            pair(kind, "any", 1);
        }
        Court.due("rows that need a wrap were among them", true, row > Integer.MAX_VALUE || row < 0);
        pair("any", "fn(fn(int,int,int,int)int,fn(int,int,int,int)int)fn(any,any,any,any)any", 1);
    }

    /** In place of ? comes each of i (int), b (flag), a (any), r ([int]) and h (fn(int)int); @ is where it is asked. */
    private static void asks(String e, String kind, String to, int taker) {
        String head = "part k(x:int):int=x;part h(x:int):int=x;part g(i:int,b:flag,a:any,r:[int]):int={";
        String[] names = {"i", "b", "a", "r", "h"};
        String[] kinds = {"int", "flag", "any", "row", "fn"};
        for (int n = 0; n < names.length; n++) {
            String text = head + e.replace("?", names[n]) + ";1};part main():int=1;";
            if (kinds[n].equals("any")) {
                BlameCourt x = Court.readNew(text.replace("@", ""));
                Court.due("judge of " + text, 1, x.judge());
                guard(x, 0, text.indexOf('@'), 2, taker, ANY, code(to));
                Court.due("part(2, 3)", 1, x.part(2, 3));
            } else if (kinds[n].equals(kind)) {
                Court.due("judge of " + text, 0, Court.judged(text.replace("@", "")).about(3));
            } else {
                Court.judgeFault(9, text);
            }
        }
    }

    /** "S, T, - U: int ..", "< and =: both must FIT int", "! U: must FIT flag", "new", "size", "print", "B [ E ]", ":=", "Call", "let". */
    private static void whatMustFit() {
        for (String e : new String[] {"@?+1", "1+@?", "@?-1", "1-@?", "1+1-@?", "@?*1", "1*@?", "@?/1", "1/@?", "@?%1", "1%@?", "1*1*@?", "-@?",
            "- -@?", "@?<1", "1<@?", "@?=1", "1=@?", "new(@?,1)", "new(@?,true)", "print(@?)", "r[@?]", "r[@?]:=1", "r[0]:=@?",
            "[1][0]:=@?", "new(1,1)[0]:=@?", "(h)(@?)", "let x=h in x(@?)", "let x:int=@? in 1", "[r][0][0]:=@?", "1+@(?)", "1+@{?}",
            "-@{1;?}", "print(@(?))"}) {
            asks(e, "int", "int", 2);
        }
        asks("k(@?)", "int", "int", 0);
        asks("h(@?)", "int", "int", 1);
        for (String e : new String[] {"!@?", "!!@?", "if @? then 1 else 1", "let x:flag=@? in 1", "[true][0]:=@?", "if @(?) then 1 else 1"}) {
            asks(e, "flag", "flag", 2);
        }
        for (String e : new String[] {"size(@?)", "?@[0]", "(?)@[0]", "size(@(?))", "size(@{?})"}) {
            asks(e, "row", "[any]", 2);
        }
        String head = "part h():int=1;part g(i:int,b:flag,a:any,r:[int]):int={";
        for (String name : new String[] {"i", "b", "r"}) {
            Court.judgeFault(9, head + name + "@();1};part main():int=1;");
            Court.judgeFault(9, head + "(" + name + ")@(-true);1};part main():int=1;");
        }
        Court.due("a call of what is told lays none", 0, Court.judged(head + "h();1};part main():int=1;").about(3));
        BlameCourt x = Court.judged(head + "a();1};part main():int=1;");
        guard(x, 0, head.length() + 1, 1, 1, ANY, code("fn()any"));
        Court.due("a call of any lays one", 1, x.about(3));
    }

    /** "if: .. both others: of LIKE KINDS that one, else ANY (GUARDS ..)", "ROW: of LIKE KINDS .., else (and without E) a ROW of ANY". */
    private static void alikeOrMixed() {
        String[] es = {"1", "true", "a", "[1]", "[a]", "[]", "f", "g"};
        String[] kinds = {"int", "flag", "any", "[int]", "[any]", "[any]", "fn(any)any", "fn(int)any"};
        for (int i = 0; i < es.length; i++) {
            for (int j = 0; j < es.length; j++) {
                mixed("part g(i:int)=g(i);part f(a)=if true then ", es[i], " else ", es[j], kinds[i], kinds[j], "", "");
                mixed("part g(i:int)=g(i);part f(a)=", "[" + es[i], ",", es[j] + "]", kinds[i], kinds[j], "[", "]");
            }
        }
        BlameCourt x = Court.judged("part main():[any]=[];");
        Court.due("a row without e is one of any", 0, x.about(3));
        Court.judgeFault(9, "part main():int=@[];");
        x = Court.judged("part main():[int]=[];");
        guard(x, 0, 18, 0, 0, code("[any]"), code("[int]"));
        // the last one of twenty is not alike
        x = Court.judged("part main():[any]=[" + many("1,", 19) + "true];");
        Court.due("guards of twenty", 20, x.about(3));
        for (int i = 0; i < 20; i++) {
            guard(x, i, 19 + 2 * i, 0, 0, i < 19 ? INT : FLAG, ANY);
        }
        Court.due("guards of twenty alike", 0, Court.judged("part main():[int]=[" + many("1,", 19) + "1];").about(3));
    }

    private static void mixed(String head, String one, String between, String other, String kindOne, String kindOther, String open, String close) {
        String text = head + one + between + other + ";part main()=0;";
        BlameCourt x = Court.readNew(text);
        x.judge();
        int placeOne = head.length() + open.length();
        int placeOther = head.length() + one.length() + between.length();
        boolean alike = kindOne.equals(kindOther);
        String whole = open + (alike ? kindOne : "any") + close;
        int i = 0;
        if (!alike && !kindOne.equals("any")) {
            guard(x, i++, placeOne, 1, 1, code(kindOne), ANY);
        }
        if (!alike && !kindOther.equals("any")) {
            guard(x, i++, placeOther, 1, 1, code(kindOther), ANY);
        }
        if (!whole.equals("any")) {
            int first = open.isEmpty() ? text.indexOf("if") : head.length();
            guard(x, i++, first, 1, 1, code(whole), ANY);
        }
        Court.due("guards in f of " + text, i + 1, x.about(3));
    }

    /** "Call: a FUNCTION of as many KINDS ..; or ANY (GUARD to a FUNCTION of as many ANY to ANY)"; "8 .. another number, at its ( ". */
    private static void numbersOfValues() {
        for (int takes = 0; takes <= 4; takes++) {
            String params = String.join(",", List.of("a:int", "b:int", "c:int", "d:int").subList(0, takes));
            String kinds = String.join(",", List.of("int", "int", "int", "int").subList(0, takes));
            for (int n = 0; n <= 4; n++) {
                String values = String.join(",", List.of("1", "2", "3", "4").subList(0, n));
                String f = "part f(" + params + "):int=1;";
                called(takes == n, f + "part main():int=f@(" + values + ");");
                called(takes == n, f + "part main():int=(f)@(" + values + ");");
                called(takes == n, f + "part g(h:fn(" + kinds + ")int):int=h@(" + values + ");part main():int=1;");
                called(takes == n, f + "part g(h:[fn(" + kinds + ")int]):int=h[0]@(" + values + ");part main():int=1;");
                String any = "part g(h)=h@(" + values + ");part main():int=1;";
                BlameCourt x = Court.judged(any.replace("@", ""));
                Court.due("guards of a call of any", 1 + n, x.about(3));
                String anys = String.join(",", List.of("any", "any", "any", "any").subList(0, n));
                guard(x, 0, any.indexOf('@'), 0, 0, ANY, code("fn(" + anys + ")any"));
                for (int i = 0; i < n; i++) {
                    guard(x, 1 + i, any.indexOf('@') + 1 + 2 * i, 0, 0, INT, ANY);
                }
            }
        }
    }

    private static void called(boolean good, String marked) {
        if (good) {
            Court.due("judge of " + marked, 0, Court.judged(marked.replace("@", "")).about(3));
        } else {
            Court.judgeFault(8, marked);
        }
    }

    /** "both the PART in whose text it is, but that of an E of a call whose B is a PART's NAME alone the TAKER is that PART". */
    private static void takers() {
        String head = "part z():int=1;part f(x:int):int=x;part g(a:any,f:fn(int)int):int={";
        String tail = ";1};part k(a):int={f(a);f(f(a));z()};part main():int=1;";
        String inK = "1};part k(a):int={f(";
        BlameCourt x = Court.judged(head + "f(a)" + tail);
        guard(x, 0, head.length() + 2, 2, 2, ANY, INT);
        guard(x, 1, (head + "f(a);" + inK).length(), 3, 1, ANY, INT);
        guard(x, 2, (head + "f(a);" + inK + "a);f(f(").length(), 3, 1, ANY, INT);
        Court.due("guards", 3, x.about(3));
        // a NAME alone: not what it gives, not the NAME in ( ) or { }, not a let's or a PARAM's of the same letters
        String two = "part z():int=1;part f(x:int):fn(int)int=h;part g(a:any):int={?;1};part h(x:int):int=x;part main():int=1;";
        for (String call : new String[] {"f(1)(@a)", "f(1)(f(1)(@a))", "(f)(@a)", "{f}(@a)", "[f][0](@a)", "let f=f in f(@a)", "let h=h in h(@a)", "new(1,h)[0](@a)",
            "(h)(@a)", "if true then (f)(@a) else h", "(f(1))(@a)"}) {
            String text = two.replace("?", call);
            x = Court.judged(text.replace("@", ""));
            guard(x, 0, text.indexOf('@'), 2, 2, ANY, INT);
        }
        for (String call : new String[] {"f(@a)", "f(@a)(1)", "(f(@a))(1)", "{f(@a)}", "let h=1 in f(@a)", "f(@a)(f(1)(1))", "let x=f in f(@a)"}) {
            String text = two.replace("?", call);
            x = Court.judged(text.replace("@", ""));
            guard(x, 0, text.indexOf('@'), 2, 1, ANY, INT);
        }
        // all that is asked in a part has that part as both
        x = Court.judged("part z():int=1;part g(a):int={a+1;!a;a[a]:=a;size(a);print(a);if a then 1 else true;[1,true];a(1);new(a,1);let b:int=a in 1};"
            + "part main():int=1;");
        Court.due("guards", 15, x.about(3));
        for (int i = 0; i < 15; i++) {
            Court.due("giver " + i, 1, x.guard(i, 1));
            Court.due("taker " + i, 1, x.guard(i, 2));
        }
    }

    /** "The first as the text is gone through, PART by PART: parts of an E from left to right, each with what is asked of it ..". */
    private static void firstFault() {
        String head = "part f(x:int,y:int):int=x;part main():any=";
        for (String e : new String[] {"@true+(1+true)", "(1+@true)+true", "@true<-true", "-(@true+[])", "!(!@1)", "if @1 then 1+true else !1",
            "if !@1 then 1 else 1", "if true then -@true else !1", "if true then 1 else !@1", "[-@true,!1]", "[1,-@true,!1]", "new(@true,-true)",
            "new(-@true,-true)", "new(1,-@true)", "size(-@true)", "size(@1)+true", "print(-@true)", "print(@true)+true", "{-@true;!1}",
            "{1;!@1;-true}", "1@[-true]", "(-@true)[1]", "[1][@true]:=true", "[1][-@true]:=true", "[1][0]:=@true", "[1][0]:=-@true",
            "1@[true]:=true", "1@(-true)", "(-@true)(1)", "f(@true,true)", "f(1,@true)", "f(-@true,true)", "f(1,-@true)", "f(@true,-true)",
            "let x:int=-@true in -true", "let x:int=@true in -true", "let x=1 in -@true", "let x:flag=@1 in x+1",
            "1+@f", "@f(1,2)(3)+true".replace("@f(1,2)", "f(1,2)@"), "f(f(@true,1),true)", "f(1,f(1,@true))"}) {
            Court.judgeFault(9, head + e + ";");
        }
        for (String e : new String[] {"f@(-true)", "f@(true)", "f@()", "f@(1,2,-true)", "f(f@(1),true)", "f@(f(1))", "{f@(1);-true}", "[f@(1),-true]"}) {
            Court.judgeFault(8, head + e + ";");
        }
        // of a part behind all its e; parts in their order
        Court.judgeFault(9, "part main():int={@true+1;true};");
        Court.judgeFault(9, "part main():int=@{1;true};");
        Court.judgeFault(9, "part f():int=@true;part main():int=true;");
        Court.judgeFault(9, "part f():int=1;part main():int=@true;part g():int=true;");
        Court.judgeFault(8, "part main():int=g@(1);part g():int=true;");
    }

    /** "each with what is asked of it, and its GUARD, ahead of the next one ..; of if and of ROWS .. when all is judged". */
    private static void guardOrder() {
        String head = "part f(x:int,y:int):int=x;part g(a,b):int={";
        String e = "f(a+b,[a,1][b]);a[b]:=if a then 1 else true;size(a)+(let x:int=b in x)";
        String tail = ";1};part main():int=1;";
        BlameCourt x = Court.judged(head + e + tail);
        int at = head.length();
        int i = 0;
        guard(x, i++, at + 2, 1, 1, ANY, INT);
        guard(x, i++, at + 4, 1, 1, ANY, INT);
        guard(x, i++, at + 9, 1, 1, INT, ANY);
        guard(x, i++, at + 12, 1, 1, ANY, INT);
        guard(x, i++, at + 6, 1, 0, ANY, INT);
        guard(x, i++, at + 17, 1, 1, ANY, code("[any]"));
        guard(x, i++, at + 18, 1, 1, ANY, INT);
        guard(x, i++, at + 25, 1, 1, ANY, FLAG);
        guard(x, i++, at + 32, 1, 1, INT, ANY);
        guard(x, i++, at + 39, 1, 1, FLAG, ANY);
        guard(x, i++, at + e.indexOf("a)+"), 1, 1, ANY, code("[any]"));
        guard(x, i++, at + e.indexOf("b in"), 1, 1, ANY, INT);
        Court.due("guards", i, x.about(3));
    }

    private static void stands(String text, int... want) {
        BlameCourt x = Court.judged(text);
        for (int k = 0; k < want.length; k++) {
            Court.due("part(" + k + ", 3) of " + text, want[k], x.part(k, 3));
        }
        Court.due("part(n, 3) of " + text, NONE, x.part(want.length, 3));
        x.tell(0, true);
        for (int k = 0; k < want.length; k++) {
            Court.due("part(" + k + ", 3) behind tell", NONE, x.part(k, 3));
        }
    }

    /** "ANY stands in a PART, if some KIND in its header, of a let, or of an E of it has ANY in it." */
    private static void anyStands() {
        stands("part f():int=1;part g():int=1;part main():int=1;", 0, 0, 0);
        stands("part f():int=1;part g(a):int=1;part main():int=1;", 0, 1, 0);
        stands("part f():int=1;part g(a:int,b:[fn(any)int]):int=1;part main():int=1;", 0, 1, 0);
        stands("part f():int=1;part g()=1;part main():int=1;", 0, 1, 0);
        stands("part f():int=1;part g():fn()[any]=g();part main():int=1;", 0, 1, 0);
        stands("part f():int=1;part g():int=let a:any=1 in 1;part main():int=1;", 0, 1, 0);
        stands("part f():int=1;part g():int=let a:fn([any])int=k in 1;part k(a:[int]):int=1;part main():int=1;", 0, 1, 0, 0);
        stands("part f():int=1;part g():int={[];1};part main():int=1;", 0, 1, 0);
        stands("part f():int=1;part g():int=size([1,true]);part main():int=g();", 0, 1, 0);
        stands("part f():int=1;part g():int={if true then 1 else true;1};part main():int=1;", 0, 1, 0);
        stands("part f():int=1;part g():int={main;1};part main()=1;", 0, 1, 1);
        stands("part f():int=1;part g():int=k(1);part k(a:any):int=1;part main():int=f();", 0, 1, 1, 0);
        stands("part f(a:any):int=1;part g():int=1;part main():int=g();", 1, 0, 0);
        stands("part f():[[int]]=[[1]];part g(a:fn([int])flag):flag=a([1]);part main():int=f()[0][0];", 0, 0, 0);
        BlameCourt x = Court.judged("part f():int=1;part main():int=1;");
        x.tell(1, false);
        x.judge();
        Court.due("part(0, 3)", 0, x.part(0, 3));
        Court.due("part(1, 3) of an untold one", 1, x.part(1, 3));
        x.tell(1, true);
        x.judge();
        Court.due("part(1, 3) told again", 0, x.part(1, 3));
    }

    /** "Each PART is told or untold (at first told); of an untold one all KINDS in its text .. are ANY". */
    private static void untoldKinds() {
        String text = "part f(a:int,b:[int]):[flag]=let c:int=a in [c=b[0]];part main():flag=f(1,[2])[0];";
        BlameCourt x = Court.readNew(text);
        Court.due("told at first", 1, x.part(0, 0));
        Court.due("judge", 0, x.judge());
        x.tell(0, false);
        // let: any and any; c=: guard; b[: guard; b[0]: guard; then [flag] to any; main: three
        Court.due("judge with f untold", 4 + 4, x.judge());
        guard(x, 0, text.indexOf("c=b"), 0, 0, ANY, INT);
        guard(x, 1, text.indexOf("[0]]"), 0, 0, ANY, code("[any]"));
        guard(x, 2, text.indexOf("b[0]]"), 0, 0, ANY, INT);
        guard(x, 3, text.indexOf("let"), 0, 0, code("[flag]"), ANY);
        guard(x, 4, text.indexOf("1,[2]"), 1, 0, INT, ANY);
        guard(x, 5, text.indexOf("[2]"), 1, 0, code("[int]"), ANY);
        guard(x, 6, text.indexOf("[0];"), 1, 1, ANY, code("[any]"));
        guard(x, 7, text.indexOf("f(1"), 1, 1, ANY, FLAG);
        x.tell(1, false);
        Court.due("judge with both untold", 7, x.judge());
        x.tell(0, true);
        Court.due("judge with main untold", 1, x.judge());
        guard(x, 0, text.indexOf("f(1"), 1, 1, FLAG, ANY);
        x.tell(1, true);
        Court.due("judge with both told", 0, x.judge());
        // what is left out in a header is any, told or not; a let without a kind has that of its e, told or not
        BlameCourt y = Court.readNew("part main()=let a=1 in let b:flag=true in !b;");
        Court.due("judge", 1, y.judge());
        guard(y, 0, 12, 0, 0, FLAG, ANY);
        y.tell(0, false);
        Court.due("judge untold", 3, y.judge());
        guard(y, 0, 34, 0, 0, FLAG, ANY);
        guard(y, 1, 43, 0, 0, ANY, FLAG);
        guard(y, 2, 12, 0, 0, FLAG, ANY);
    }

    /** "A PART is told, or not (true: told): true; the program is not judged then. False: there is none such." */
    private static void tellBounds() {
        BlameCourt x = Court.judged("part f(x)=x;part g():int=1;part main():int=f(1);");
        x.run(100);
        for (int k : new int[] {Integer.MIN_VALUE, -1, 3, 4, 39, 40, Integer.MAX_VALUE}) {
            Court.refused("tell(" + k + ", false)", x, 0, () -> x.tell(k, false) ? 1 : 0);
            Court.refused("tell(" + k + ", true)", x, 0, () -> x.tell(k, true) ? 1 : 0);
        }
        for (int k = 0; k < 3; k++) {
            for (boolean told : new boolean[] {true, false, false, true}) {
                x.judge();
                Court.due("judged", 1, x.about(2));
                Court.due("tell(" + k + ", " + told + ")", true, x.tell(k, told));
                Court.due("not judged", 0, x.about(2));
                Court.due("part(k, 0)", told ? 1 : 0, x.part(k, 0));
                Court.due("part of the next", 1, x.part((k + 1) % 3, 0));
                Court.due("run", NONE, x.run(10));
                Court.due("the run ahead of it stays", 4, x.told(3));
            }
        }
    }

    /** "NONE: there is none, or it has a FAULT (it is not judged then)." */
    private static void judgeRefuses() {
        BlameCourt x = new BlameCourt();
        Court.due("judge of none", NONE, x.judge());
        Court.due("about(2)", 0, x.about(2));
        Court.due("about(3)", NONE, x.about(3));
        String text = "part f(x:int)=x;part main():int={f(print(5));let a:int=true in f(a)};";
        Court.read(x, text);
        x.runUntold(100);
        Court.due("judge of a faulty one", NONE, x.judge());
        Court.due("fault(0)", 9, x.fault(0));
        Court.due("fault(1)", text.indexOf("true"), x.fault(1));
        Court.refused("judge once more", x, NONE, () -> x.judge());
        Court.refused("run", x, NONE, () -> x.run(100));
        Court.due("guard(0, 0), though one was laid ahead of the fault", NONE, x.guard(0, 0));
        Court.due("about(3)", NONE, x.about(3));
        Court.due("part(0, 3)", NONE, x.part(0, 3));
        Court.due("told(7) of the run ahead of it", 1, x.told(7));
        Court.due("told(4) of the run ahead of it", 1, x.told(4));
        x.tell(1, false);
        Court.due("judge when untold", 3, x.judge());
        Court.refused("judge once more", x, 3, () -> x.judge());
        Court.due("run", 3, x.run(100));
        x.tell(1, true);
        Court.due("judge when told again", NONE, x.judge());
        Court.due("fault(0)", 9, x.fault(0));
        Court.due("about(2)", 0, x.about(2));
        Court.due("the latest run", 3, x.told(0));
    }

    /** "Of GUARD i of the judged program: 0 .. 4 .. NONE for others, or if it isn't judged." */
    private static void guardBounds() {
        String text = "part f(x)=x;part main():int=f(f(1));";
        BlameCourt x = Court.readNew(text);
        guards(x, 0);
        x.judge();
        guards(x, 2);
        guard(x, 0, 32, 1, 0, INT, ANY);
        guard(x, 1, 28, 1, 1, ANY, INT);
        Court.refusedRead(x, 1, "@#");
        guards(x, 2);
        x.tell(0, true);
        guards(x, 0);
        x.runUntold(10);
        guards(x, 0);
        x.judge();
        guards(x, 2);
        Court.read(x, "part main():int=1;");
        guards(x, 0);
        x.judge();
        guards(x, 0);
        Court.read(x, "part main()=1;");
        guards(x, 0);
        x.judge();
        guards(x, 1);
    }

    private static void guards(BlameCourt x, int many) {
        for (int i : new int[] {Integer.MIN_VALUE, -1, 0, 1, 2, 3, 2999, 3000, Integer.MAX_VALUE}) {
            boolean is = i >= 0 && i < many;
            for (int what : new int[] {Integer.MIN_VALUE, -1, 0, 1, 2, 3, 4, 5, Integer.MAX_VALUE}) {
                int got = x.guard(i, what);
                Court.due("guard(" + i + ", " + what + ") is none", !(is && what >= 0 && what <= 4), got == NONE);
            }
        }
    }

    /** Four params and forty lets at once, each with a kind and a value of its own. */
    private static void mostNames() {
        StringBuilder lets = new StringBuilder();
        StringBuilder sum = new StringBuilder("a*b*c*d");
        int want = 2 * 3 * 5 * 7;
        for (int i = 0; i < 40; i++) {
            String name = "v" + (char) ('a' + i % 20) + (char) ('a' + i / 20);
            lets.append("let ").append(name).append("=").append(1000 + i * i).append(" in ");
            sum.append("+").append(name);
            want += 1000 + i * i;
        }
        String head = "part f(a:int,b:int,c:int,d:int):int=";
        String text = head + lets + sum + ";part main():int=f(2,3,5,7)+1;";
        BlameCourt x = Court.judged(text);
        Court.due("guards", 0, x.about(3));
        Court.due("run", 0, x.run(20000));
        Court.due("told(5)", want + 1, x.told(5));
        Court.due("runUntold", 0, x.runUntold(20000));
        Court.due("told(5)", want + 1, x.told(5));
        x = Court.judged(text.replace("vtb=", "vtb:any="));
        Court.due("guards: to any, and to int again", 2, x.about(3));
        Court.due("the last let's", ANY, x.guard(1, 3));
        Court.judgeFault(9, text.replace("vtb=2521", "vtb=true").replace("+vtb", "+@vtb"));
        // each call has its own: the ones of the caller are as they were
        text = head.replace("=", "=if d=0 then 0 else let r=f(a+1,b+1,c+1,d-1) in r*10+a+b+c+d;") + "part main():int=f(1,2,3,4);";
        x = Court.judged(text);
        Court.due("run", 0, x.run(20000));
        Court.due("told(5)", ((0 * 10 + 4 + 5 + 6 + 1) * 10 + 3 + 4 + 5 + 2) * 100 + (2 + 3 + 4 + 3) * 10 + 10, x.told(5));
    }

    /** Of each kind some e, of each form that an e can have. */
    private static final String[][] FORMS = {
        {"int", "1", "i", "i+1", "i-i*2", "1/i%3", "-i", "- -1", "h(i)", "h(h(i))", "r[0]", "r[0]:=1", "r[i]:=r[0]:=i", "size(r)", "size([1])", "print(1)",
            "(i)", "{true;[2];i}", "if b then 1 else i", "let z=b in i", "let z:flag=b in 1", "[1][0]", "[[i]][0][0]", "new(1,1)[0]", "(h)(1)", "[h][0](1)",
            "new(2,r)[1][0]"},
        {"flag", "true", "false", "b", "!b", "!!true", "1<i", "i=1", "1+i<i*2", "(b)", "{1;b}", "if b then b else true", "let z=1 in b", "[b][0]", "new(1,b)[0]:=true",
            "k(b,1)", "(k)(b,i)"},
        {"[int]", "r", "[1]", "[i,1]", "[1,2,i]", "new(1,1)", "new(i,i)", "(r)", "{b;r}", "[r][0]", "[r,[1]][0]", "if b then r else [1]", "let z=r in z"},
        {"[[int]]", "[r]", "[r,r]", "new(1,r)", "[[1],r,new(1,1)]"},
        {"[any]", "[]", "([])"},
        {"fn(int)int", "h", "(h)", "[h][0]", "if b then h else h", "let z=h in z", "new(1,h)[0]"},
        {"[fn(int)int]", "[h]", "[h,h]", "new(2,h)"},
        {"any", "a", "(a)", "[a][0]"}};

    /** Each e beside another one, ahead of it and behind: of both all is as it is of each alone. */
    private static void besideOthers() {
        for (String[] one : FORMS) {
            for (int i = 1; i < one.length; i++) {
                String[] other = FORMS[i % FORMS.length];
                String e = one[i];
                String o = other[1 + i * 5 % (other.length - 1)];
                beside("f(", e, ",", o, ")", one[0], other[0]);
                beside("f(", o, ",", e, ")", other[0], one[0]);
                beside("[", e, ",", o, "]", one[0], other[0]);
                beside("[", o, ",", e, "]", other[0], one[0]);
                beside("if b then ", e, " else ", o, "", one[0], other[0]);
                beside("if b then ", o, " else ", e, "", other[0], one[0]);
                beside("{", e, ";", o, "}", one[0], other[0]);
                beside("let y=", e, " in ", o, "", one[0], other[0]);
            }
        }
    }

    /** The one e and the other one in some e around both: its kind, and just the guards to any, if they are not alike. */
    private static void beside(String before, String one, String between, String other, String behind, String kindOne, String kindOther) {
        boolean call = before.equals("f(");
        boolean row = before.equals("[");
        boolean joins = row || before.startsWith("if");
        boolean mixed = joins && !kindOne.equals(kindOther);
        String kind = call ? "int" : mixed ? "any" : kindOther;
        String head = "part f(x:" + (call ? kindOne : "int") + ",y:" + (call ? kindOther : "int") + "):int=1;part h(x:int):int=x;"
            + "part k(x:flag,y:int):flag=x;part g(i:int,b:flag,a:any,r:[int]):int=let w:" + (row ? "[" + kind + "]" : kind) + "=" + before;
        String tail = behind + " in 0;part main():int=1;";
        String text = head + one + between + other + tail;
        BlameCourt x = Court.readNew(text);
        Court.due("judge of " + text, !mixed ? 0 : kindOne.equals("any") || kindOther.equals("any") ? 1 : 2, x.judge());
        int i = 0;
        if (mixed && !kindOne.equals("any")) {
            guard(x, i++, head.length(), 3, 3, code(kindOne), ANY);
        }
        if (mixed && !kindOther.equals("any")) {
            guard(x, i, head.length() + one.length() + between.length(), 3, 3, code(kindOther), ANY);
        }
        if (call && !kindOther.equals("any")) {
            Court.judgeFault(9, head + one + between + "@" + (kindOther.equals("flag") ? "1" : "true") + tail);
        }
        if (call && !kindOne.equals("any")) {
            Court.judgeFault(9, head + "@" + (kindOne.equals("flag") ? "1" : "true") + between + other + tail);
            x = Court.judged(head + "a" + between + other + tail);
            Court.due("guards of " + head + "a" + between + other, 1, x.about(3));
            guard(x, 0, head.length(), 3, 0, ANY, code(kindOne));
        }
    }

    /** Texts with kinds upon kinds: rows as deep as may be, of kinds of which each text has others (its residue). */
    private static final class Crowd {
        private final List<String> kinds = new ArrayList<>();
        private final List<Integer> places = new ArrayList<>();
        private final String text;
        /** One of each row, one of main, and one of each part whose kind is left out. */
        private int guards = 1;

        Crowd(int residue, int of) {
            StringBuilder parts = new StringBuilder();
            StringBuilder rows = new StringBuilder();
            List<String> headers = headers();
            for (int i = residue; i < headers.size(); i += of) {
                String name = String.valueOf((char) ((kinds.size() < 26 ? 'a' : 'A' - 26) + kinds.size()));
                String[] h = headers.get(i).split(";");
                String part = "part " + name + h[0] + ";";
                int size = rows.length() + 2 * ROWS + name.length() + 1;
                if (kinds.size() == 38 || HEAD.length() + size + parts.length() + part.length() + 3 > 3000) {
                    break;
                }
                // the first twenty in one row, the others in another
                rows.append(kinds.isEmpty() ? "[" : kinds.size() == 20 ? "];[" : ",");
                places.add(HEAD.length() + rows.length());
                rows.append(many("[", ROWS)).append(name).append(many("]", ROWS));
                parts.append(part);
                kinds.add(many("[", ROWS) + h[1] + many("]", ROWS));
                guards += h[1].endsWith("any") ? 2 : 1;
            }
            text = HEAD + rows + "]};" + parts;
        }

        private static final int ROWS = 38;
        private static final String HEAD = "part main():any={";

        /** Headers with an e behind them, and the kinds of such parts; the shortest come first. */
        private static List<String> headers() {
            List<String> headers = new ArrayList<>();
            String[][] owns = {{"=1", "any"}, {":int=1", "int"}, {":flag=true", "flag"}};
            String[] kinds = {"int", "flag", "[int]", "fn()int"};
            for (String[] own : owns) {
                for (String k : kinds) {
                    headers.add("(a:" + k + ")" + own[0] + ";fn(" + k + ")" + own[1]);
                    headers.add("(a,b:" + k + ")" + own[0] + ";fn(any," + k + ")" + own[1]);
                    headers.add("(a:" + k + ",b)" + own[0] + ";fn(" + k + ",any)" + own[1]);
                    headers.add("(a,b,c:" + k + ")" + own[0] + ";fn(any,any," + k + ")" + own[1]);
                    for (String l : kinds) {
                        headers.add("(a:" + k + ",b:" + l + ")" + own[0] + ";fn(" + k + "," + l + ")" + own[1]);
                    }
                }
            }
            headers.sort((one, other) -> Integer.compare(one.indexOf(';'), other.indexOf(';')));
            return headers;
        }

        /** All its guards: from each row's kind to any, and from the last row to any. */
        void judged(BlameCourt x) {
            Court.due("judge of " + text, guards, x.judge());
            for (int i = 0; i < kinds.size(); i++) {
                one(x, i);
            }
        }

        void one(BlameCourt x, int i) {
            guard(x, i, places.get(i), 0, 0, code(kinds.get(i)), ANY);
        }
    }

    /** As many kinds as a text of 3,000 bytes can well have. */
    private static void mostKinds() {
        Crowd crowd = new Crowd(0, 1);
        Court.due("kinds of " + crowd.text, true, crowd.kinds.size() * (Crowd.ROWS + 1) > 1100);
        BlameCourt x = Court.readNew(crowd.text);
        for (int round = 0; round < 3; round++) {
            crowd.judged(x);
            for (int k = 0; k < x.about(1); k++) {
                x.tell(k, k % 3 == round);
            }
            x.judge();
            for (int k = 0; k < x.about(1); k++) {
                x.tell(k, true);
            }
        }
        crowd.judged(x);
    }

    /** What is read has its own kinds alone: as many as those of former texts may come behind them. */
    private static void kindsOfFormerTexts() {
        BlameCourt x = new BlameCourt();
        for (int residue = 0; residue < 3; residue++) {
            Crowd crowd = new Crowd(residue, 3);
            Court.read(x, crowd.text);
            Court.due("judge of " + crowd.text, crowd.guards, x.judge());
            crowd.one(x, 0);
            crowd.one(x, crowd.kinds.size() - 1);
        }
    }
}
