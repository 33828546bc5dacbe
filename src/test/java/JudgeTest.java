/** Promises 5 to 9: kinds, judging, guards, and the faults of judge(). */
public final class JudgeTest {
    private static final int NONE = BlameCourt.NONE;
    private static final int INT = 1;
    private static final int FLAG = 2;
    private static final int ANY = 3;

    public static void main(String[] args) {
        codes();
        places();
        parties();
        order();
        untold();
        anyStands();
        doesntFit();
        otherNumber();
        firstFault();
        deepKinds();
        wrongInputs();
        Court.close();
    }

    private static int row(int code) {
        return 5 * code + 4;
    }

    private static int fn(int... codes) {
        int code = 7 + codes.length - 1;
        for (int c : codes) {
            code = 31 * code + c;
        }
        return code;
    }

    private static int[] guard(int place, int giver, int taker, int from, int to) {
        return new int[] {place, giver, taker, from, to};
    }

    /** All guards of a text, as they are told. */
    private static BlameCourt guards(String text, int[]... want) {
        BlameCourt x = Court.readNew(text);
        guards(x, text, want);
        return x;
    }

    private static void guards(BlameCourt x, String text, int[]... want) {
        Court.due("judge of " + text, want.length, x.judge());
        Court.due("fault(0) of " + text, 0, x.fault(0));
        Court.due("fault(1) of " + text, NONE, x.fault(1));
        Court.due("about(3) of " + text, want.length, x.about(3));
        for (int i = 0; i < want.length; i++) {
            for (int what = 0; what < 5; what++) {
                Court.due("guard(" + i + ", " + what + ") of " + text, want[i][what], x.guard(i, what));
            }
            Court.due("guard(" + i + ", 5) of " + text, NONE, x.guard(i, 5));
            Court.due("guard(" + i + ", -1) of " + text, NONE, x.guard(i, -1));
        }
        Court.due("guard(n, 0) of " + text, NONE, x.guard(want.length, 0));
        Court.due("guard(-1, 0) of " + text, NONE, x.guard(-1, 0));
    }

    /** One guard from any to a kind: that of main's only e, which calls f. */
    private static void toKind(String kind, int code) {
        guards("part f()=1;part main():" + kind + "=f();", guard(9, 0, 0, INT, ANY),
            guard(24 + kind.length(), 1, 1, ANY, code));
    }

    private static void codes() {
        toKind("int", 1);
        toKind("flag", 2);
        toKind("[int]", 9);
        toKind("[flag]", 14);
        toKind("[any]", 19);
        toKind("[[int]]", 49);
        toKind("fn()int", 7 * 31 + 1);
        toKind("fn(int)int", 7720);
        toKind("fn(any)any", 7784);
        toKind("fn(int,flag)any", ((9 * 31 + 1) * 31 + 2) * 31 + 3);
        toKind("fn(int,int,int,int)int", fn(1, 1, 1, 1, 1));
        toKind("fn([any],fn(flag)[int])fn()any", fn(19, fn(2, 9), fn(3)));
        toKind("[[[[[[[[[[[[[[[[int]]]]]]]]]]]]]]]]", deep(16));
        Court.due("a code goes round in 32 bits", true, deep(16) != 5L * deep(15) + 4);
    }

    private static int deep(int rows) {
        int code = INT;
        for (int i = 0; i < rows; i++) {
            code = row(code);
        }
        return code;
    }

    /** Main with an e in which a and r are of no told kind; the guards but those at f and g, main's own kind is any. */
    private static void inMain(String e, int[]... want) {
        guards("part f(a,r)=" + e + ";part main()=f;", append(want, "part f(a,r)=" + e + ";part main()=f;"));
    }

    private static int[][] append(int[][] some, String text) {
        int[][] all = new int[some.length + 1][];
        System.arraycopy(some, 0, all, 0, some.length);
        all[some.length] = guard(text.length() - 2, 1, 1, fn(ANY, ANY, ANY), ANY);
        return all;
    }

    private static void places() {
        int at = 12;
        int toAny = 12;
        inMain("a+r", guard(at, 0, 0, ANY, INT), guard(at + 2, 0, 0, ANY, INT), guard(toAny, 0, 0, INT, ANY));
        inMain("1+ r*2", guard(at + 3, 0, 0, ANY, INT), guard(toAny, 0, 0, INT, ANY));
        inMain("a<r", guard(at, 0, 0, ANY, INT), guard(at + 2, 0, 0, ANY, INT), guard(toAny, 0, 0, FLAG, ANY));
        inMain("(a)=1", guard(at, 0, 0, ANY, INT), guard(toAny, 0, 0, FLAG, ANY));
        inMain("- a", guard(at + 2, 0, 0, ANY, INT), guard(toAny, 0, 0, INT, ANY));
        inMain("!a", guard(at + 1, 0, 0, ANY, FLAG), guard(toAny, 0, 0, FLAG, ANY));
        inMain("if a then a else r", guard(at + 3, 0, 0, ANY, FLAG));
        inMain("if true then 1 else 2", guard(toAny, 0, 0, INT, ANY));
        inMain("if true then 1 else false", guard(at + 13, 0, 0, INT, ANY), guard(at + 20, 0, 0, FLAG, ANY));
        inMain("if true then a else [1]", guard(at + 20, 0, 0, row(INT), ANY));
        inMain("if true then 1 else a", guard(at + 13, 0, 0, INT, ANY));
        inMain("[1,2]", guard(toAny, 0, 0, row(INT), ANY));
        inMain("[]", guard(toAny, 0, 0, row(ANY), ANY));
        inMain("[a,1,true,r,[2]]", guard(at + 3, 0, 0, INT, ANY), guard(at + 5, 0, 0, FLAG, ANY),
            guard(at + 12, 0, 0, row(INT), ANY), guard(toAny, 0, 0, row(ANY), ANY));
        inMain("new(a,r)", guard(at + 4, 0, 0, ANY, INT), guard(toAny, 0, 0, row(ANY), ANY));
        inMain("new(1,true)", guard(toAny, 0, 0, row(FLAG), ANY));
        inMain("size(a)", guard(at + 5, 0, 0, ANY, row(ANY)), guard(toAny, 0, 0, INT, ANY));
        inMain("size([1])", guard(toAny, 0, 0, INT, ANY));
        inMain("print(a)", guard(at + 6, 0, 0, ANY, INT), guard(toAny, 0, 0, INT, ANY));
        inMain("{a;r;1}", guard(toAny, 0, 0, INT, ANY));
        inMain("a [r]", guard(at + 2, 0, 0, ANY, row(ANY)), guard(at + 3, 0, 0, ANY, INT));
        inMain("a[1]:=2", guard(at + 1, 0, 0, ANY, row(ANY)), guard(at + 6, 0, 0, INT, ANY));
        inMain("[1][0]:=a", guard(at + 8, 0, 0, ANY, INT), guard(toAny, 0, 0, INT, ANY));
        inMain("[1][a]", guard(at + 4, 0, 0, ANY, INT), guard(toAny, 0, 0, INT, ANY));
        inMain("a(r,1)", guard(at + 1, 0, 0, ANY, fn(ANY, ANY, ANY)), guard(at + 4, 0, 0, INT, ANY));
        inMain("a()(1)", guard(at + 1, 0, 0, ANY, fn(ANY)), guard(at + 3, 0, 0, ANY, fn(ANY, ANY)),
            guard(at + 4, 0, 0, INT, ANY));
        inMain("let x:int=a in x", guard(at + 10, 0, 0, ANY, INT), guard(toAny, 0, 0, INT, ANY));
        inMain("let x:any=1 in x", guard(at + 10, 0, 0, INT, ANY));
        inMain("let x=1 in x", guard(toAny, 0, 0, INT, ANY));
        inMain("let x=a in x");
        inMain("let x:[int]=[a] in 1", guard(at + 12, 0, 0, row(ANY), row(INT)), guard(toAny, 0, 0, INT, ANY));
    }

    private static void parties() {
        String text = "part g(x:int)=x;part f(y)=g(y);part main()=f(g(true+1));";
        Court.judgeFault(9, "part g(x:int)=x;part f(y)=g(y);part main()=f(g(@true+1));");
        text = text.replace("true", "1");
        guards(text, guard(14, 0, 0, INT, ANY), guard(28, 1, 0, ANY, INT));
        // a part's name in ( ), in { }, behind a let, or called for what it gives is not a part's name alone
        guards("part f(x)=f;part main()=(f)(1);", guard(10, 0, 0, fn(ANY, ANY), ANY), guard(28, 1, 1, INT, ANY));
        guards("part f(x)=f;part main()={f}(1);", guard(10, 0, 0, fn(ANY, ANY), ANY), guard(28, 1, 1, INT, ANY));
        guards("part f(x)=f;part main()=let f=f in f(1);", guard(10, 0, 0, fn(ANY, ANY), ANY),
            guard(37, 1, 1, INT, ANY));
        guards("part f(x)=f;part main()=f(1)(2);", guard(10, 0, 0, fn(ANY, ANY), ANY), guard(26, 1, 0, INT, ANY),
            guard(28, 1, 1, ANY, fn(ANY, ANY)), guard(29, 1, 1, INT, ANY));
        guards("part main()=f(1)(2);part f(x)=f;", guard(14, 0, 1, INT, ANY), guard(16, 0, 0, ANY, fn(ANY, ANY)),
            guard(17, 0, 0, INT, ANY), guard(30, 1, 1, fn(ANY, ANY), ANY));
        guards("part main()=[f][0](2);part f(x)=f;", guard(19, 0, 0, INT, ANY), guard(32, 1, 1, fn(ANY, ANY), ANY));
        guards("part f(f)=f(1);part main()=f(f);", guard(11, 0, 0, ANY, fn(ANY, ANY)), guard(12, 0, 0, INT, ANY),
            guard(29, 1, 0, fn(ANY, ANY), ANY));
        guards("part main()=main();");
        guards("part main():int=main();");
    }

    private static void order() {
        // guards of an if or a row come when all of it is judged, those of what is asked at once
        guards("part f(a)=[1,[2,true],-a,a];part main()=f;",
            guard(14, 0, 0, INT, ANY), guard(16, 0, 0, FLAG, ANY), guard(23, 0, 0, ANY, INT),
            guard(11, 0, 0, INT, ANY), guard(13, 0, 0, row(ANY), ANY), guard(22, 0, 0, INT, ANY),
            guard(10, 0, 0, row(ANY), ANY), guard(40, 1, 1, fn(ANY, ANY), ANY));
        guards("part f(a)=if a then if true then 1 else false else [a+a];part main():any=f;",
            guard(13, 0, 0, ANY, FLAG), guard(33, 0, 0, INT, ANY), guard(40, 0, 0, FLAG, ANY),
            guard(52, 0, 0, ANY, INT), guard(54, 0, 0, ANY, INT), guard(51, 0, 0, row(INT), ANY),
            guard(73, 1, 1, fn(ANY, ANY), ANY));
    }

    private static void untold() {
        String text = "part f(x:int):[int]=let y:int=x in let z=1 in [y,z];part main():int=f(1)[0];";
        BlameCourt x = guards(text);
        Court.due("part(0, 3)", 0, x.part(0, 3));
        Court.due("part(1, 3)", 0, x.part(1, 3));
        Court.due("tell(0, false)", true, x.tell(0, false));
        Court.due("guard when told anew", NONE, x.guard(0, 0));
        Court.due("about(2) when told anew", 0, x.about(2));
        Court.due("part(0, 3) when told anew", NONE, x.part(0, 3));
        Court.due("part(0, 0)", 0, x.part(0, 0));
        Court.due("part(1, 0)", 1, x.part(1, 0));
        Court.due("run when told anew", NONE, x.run(100));
        // y is any, z is int all the same, since it tells no kind
        guards(x, text + " with f untold", guard(49, 0, 0, INT, ANY), guard(20, 0, 0, row(ANY), ANY),
            guard(70, 1, 0, INT, ANY), guard(72, 1, 1, ANY, row(ANY)), guard(68, 1, 1, ANY, INT));
        Court.due("part(0, 3)", 1, x.part(0, 3));
        x.tell(1, false);
        guards(x, text + " untold", guard(49, 0, 0, INT, ANY), guard(20, 0, 0, row(ANY), ANY), guard(70, 1, 0, INT, ANY),
            guard(72, 1, 1, ANY, row(ANY)));
        x.tell(0, true);
        guards(x, text + " with main untold", guard(68, 1, 1, INT, ANY));
        x.tell(1, true);
        guards(x, text);
        Court.due("tell to what it is already", true, x.tell(1, true));
        Court.due("about(2) then", 0, x.about(2));
        // what doesn't fit may fit untold
        BlameCourt y = Court.readNew("part main():flag=let a:flag=1 in a;");
        Court.due("judge", NONE, y.judge());
        Court.due("fault(0)", 9, y.fault(0));
        y.tell(0, false);
        guards(y, "part main():flag=let a:flag=1 in a; untold", guard(28, 0, 0, INT, ANY));
        Court.due("fault(0)", 0, y.fault(0));
        y.tell(0, true);
        Court.due("judge", NONE, y.judge());
        Court.due("about(2)", 0, y.about(2));
    }

    private static void any(int want, String text) {
        BlameCourt x = Court.judged(text);
        Court.due("part(0, 3) of " + text, want, x.part(0, 3));
    }

    private static void anyStands() {
        any(0, "part main():int=1;");
        any(1, "part main()=1;");
        any(1, "part main():any=1;");
        any(1, "part main():[any]=[];");
        any(0, "part f(a:int,b:[flag],c:fn()int):int=c();part main():int=1;");
        any(1, "part f(a):int=1;part main():int=1;");
        any(1, "part f(a:int,b:[any]):int=1;part main():int=1;");
        any(1, "part f(a:fn(any)int):int=1;part main():int=1;");
        any(1, "part f(a:fn(int)any):int=1;part main():int=1;");
        any(1, "part main():int=let a:any=1 in 1;");
        any(1, "part main():int=let a:[any]=[1] in 1;");
        any(1, "part main():int=let a=[] in 1;");
        any(1, "part main():int=size([]);");
        any(1, "part main():int=size([1,true]);");
        any(0, "part main():int=size([1,2]);");
        any(1, "part main():int={if true then 1 else true;1};");
        any(1, "part main():int={f;1};part f(a)=1;");
        any(1, "part main():int=f(1);part f(a:any):int=1;");
        any(0, "part main():int=f(1);part f(a:int):int=let b:any=1 in 1;");
    }

    private static void doesntFit() {
        String head = "part f(a,i:int,b:flag,r:[int]):int=1;part g(h:fn(int)int,i:int,b:flag,r:[int]):any=";
        String tail = ";part main():int=1;";
        String[] es = {"@true+1", "1+@true", "1*2+@f", "@[1]-1", "1/@b", "-@b", "--@r", "!@1", "!@(1)",
            "if @1 then 1 else 2", "if 1<@true then 1 else 2", "@b<1", "1=@b", "@f=f", "new(@b,1)", "new(@[1],1)",
            "print(@b)", "print(@[])", "size(@1)", "size(@i)", "size(@f)", "size(@(1))", "1@[0]", "true@[0]:=1", "f@[0]",
            "[1][@true]", "[1][@[0]]", "[1][0]:=@true", "[[1]][0]:=@[true]", "1@()", "true@(1)", "[1]@(1)", "{1}@()",
            "f(1,@true,true,[1])", "f(1,1,@1,[1])", "f(1,1,true,@[true])", "f(1,1,true,@1)", "h(@true)", "h(1)@()",
            "let x:int=@true in 1", "let x:[int]=@[true] in 1", "let x:fn(int)int=@f in 1", "let x:fn(flag)int=@h in 1",
            "let x:fn(int)flag=@h in 1", "let x:fn(fn(any)int)any=@{h} in 1", "let x=1 in x@()",
            "let b=1 in !@b"};
        for (String e : es) {
            Court.judgeFault(9, head + e + tail);
        }
        Court.judgeFault(9, "part main():int=@true;");
        Court.judgeFault(9, "part main():[int]=@[true];");
        Court.judgeFault(9, "part main():fn()int=@main;");
        Court.judgeFault(9, "part main():fn()int=@{main};");
        Court.judgeFault(9, "part f(x:int):int=x;part main():fn()int=@f;");
        Court.due("rows of rows fit by what is in them", 1, Court.judged("part main():[[any]]=[[1]];").about(3));
    }

    private static void otherNumber() {
        String head = "part f(a,b)=1;part g():int=1;part main()=";
        for (String e : new String[] {"f@(1)", "f@()", "f@(1,2,3)", "g@(1)", "(f)@(1)", "f@(true+1)", "let h:fn(int)int=f(1,2) in h@()",
            "f(1,g@(1))", "f(g@(2),g(1))"}) {
            Court.judgeFault(8, head + e + ";");
        }
        Court.due("any takes any number", 0, Court.judged("part main()=let x:any=main in {x();x(1,2,3,4);1};").fault(0));
    }

    private static void firstFault() {
        Court.judgeFault(9, "part f():int=@true;part main()=f(1);");
        Court.judgeFault(8, "part main()=f@(true+1);part f():int=true;");
        Court.judgeFault(9, "part main()=[@true+1,f(1)];part f():int=true;");
        Court.judgeFault(9, "part main()=if @1 then true+1 else 1+true;");
        Court.judgeFault(9, "part main()=1@[true+1];");
        Court.judgeFault(9, "part main():int=[@true+1];");
        Court.judgeFault(9, "part main():int=let a:flag=@1 in [1];");
        Court.judgeFault(9, "part f(a:int)=1;part main()=f(-@true);");
        Court.judgeFault(9, "part f(a:int,b:int)=1;part main()=f(@true,-true);");
        Court.judgeFault(9, "part main()=[1][@true]:=true;");
        Court.judgeFault(9, "part main()=new(@true,1+true);");
    }

    /** Lets add to one another's rows: kinds of hundreds of rows within one another. */
    private static void deepKinds() {
        StringBuilder lets = new StringBuilder("part main():any=let a=1 in ");
        int code = INT;
        int rows = 0;
        for (int i = 0; i < 35; i++) {
            int more = 35 - i;
            lets.append("let a=").append(Court.repeat("[", more)).append("a").append(Court.repeat("]", more)).append("in ");
            rows += more;
        }
        for (int i = 0; i < rows; i++) {
            code = row(code);
        }
        String text = lets + "{a=1;a};";
        Court.judgeFault(9, text.replace("{a=1;", "{@a=1;"));
        text = lets + "a;";
        guards(text, guard(16, 0, 0, code, ANY));
        String rowKind = Court.repeat("[", 3) + "any" + Court.repeat("]", 3);
        BlameCourt x = Court.judged(text.replace(":any=", ":" + rowKind + "="));
        Court.due("run", 0, x.run(20000));
        Court.due("told(4)", 3, x.told(4));
        Court.due("told(6)", 1, x.told(6));
        // as many guards as a text of 3,000 bytes can have: each number goes into a row of mixed kinds
        String items = "[" + Court.repeat("1,", 18) + "!t]";
        StringBuilder many = new StringBuilder("part main()=let t:any=true in {0");
        int want = 2;
        for (int i = 0; i < 70; i++) {
            many.append(";").append(items);
            want += 20;
        }
        many.append("};");
        BlameCourt y = Court.judged(many.toString());
        Court.due("guards of " + many.length() + " bytes", want, y.about(3));
    }

    private static void wrongInputs() {
        BlameCourt x = Court.judged("part main()=1;");
        for (int i : new int[] {-1, 1, 2, 3000, Integer.MIN_VALUE, Integer.MAX_VALUE}) {
            Court.due("guard(" + i + ", 0)", NONE, x.guard(i, 0));
            Court.due("tell(" + i + ")", false, x.tell(i, false));
            Court.due("about(2) then", 1, x.about(2));
        }
        for (int what : new int[] {-1, 5, 100, Integer.MIN_VALUE, Integer.MAX_VALUE}) {
            Court.due("guard(0, " + what + ")", NONE, x.guard(0, what));
            Court.due("fault(" + what + ")", NONE, x.fault(what));
        }
    }
}
