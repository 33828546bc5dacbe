/** Promises 4, 5 and 9: tokens, the grammar, the faults of read() and the parts that it finds. */
public final class ReadTest {
    private static final int NONE = BlameCourt.NONE;

    public static void main(String[] args) {
        good();
        cantStand();
        paramTwice();
        tooManyListed();
        tooManySigns();
        tooManyOpen();
        numbers();
        names();
        leastOfOneToken();
        formerStays();
        parts();
        Court.close();
    }

    private static void ok(int parts, String text) {
        BlameCourt x = new BlameCourt();
        Court.due("read of " + text, parts, Court.read(x, text));
        Court.due("fault(0) of " + text, 0, x.fault(0));
        Court.due("fault(1) of " + text, NONE, x.fault(1));
        Court.due("fault(2) of " + text, NONE, x.fault(2));
        Court.due("fault(-1) of " + text, NONE, x.fault(-1));
    }

    /** A text whose main is this e. */
    private static String of(String e) {
        return "part f(a,b,c,d)=a;part main()=" + e + ";";
    }

    private static void okE(String e) {
        ok(2, of(e));
    }

    private static void faultE(int fault, String markedE) {
        Court.readFault(fault, of(markedE));
    }

    private static void good() {
        ok(1, "part main()=1;");
        ok(1, " \n part\nmain ( ) =\n1 ; \n");
        ok(2, "part main()=1;part f(a:int,b:[flag],c:fn()any,d:fn([int],fn(flag)any)[any]):fn()int=main;");
        String[] es = {"1", "true", "false", "f", "[]", "[1]", "[1,true,f]", "new(1,2)", "size([])", "print(1)", "(1)",
            "{1}", "{1;2;3}", "let x=1 in x", "let x:int=1 in x", "let x=let y=1 in y in x", "if true then 1 else 2",
            "1<2", "1=2", "1+2-3*4/5%6", "--1", "!!true", "-!1", "1- -1", "1--1", "f(1)(2)[3](4)", "f[1][2]:=3",
            "f[1]:=f[2]:=3", "1+f[1]:=2+3", "-f[1]:=1<2", "f[1]:=1<2<3", "f[1]:=let x=1 in x", "[let x=1 in x]",
            "f(if true then 1 else 2)", "let x=1=2 in x", "{let x=1 in x;2}", "[1,2][0]", "(f)(1)", "{f}(1)",
            "new(1,2)[0]:=3", "1(2)", "true[1]", "print(1)+size(2)", "let f=1 in f", "let main=f in main",
            "let lets=1 in lets", "let Part=1 in Part", "let x=1in x", "if(1)then(2)else(3)", "1<f[0]:=2<3"};
        for (String e : es) {
            okE(e);
        }
    }

    private static void cantStand() {
        String[] texts = {"@1", "@main", "@;", "part @1", "part @part", "part @(", "part f@=1;", "part f(@,)=1;",
            "part f(a @b)=1;", "part f(a,@)=1;", "part f(a@=1;", "part f()@1;", "part f(): @=1;", "part f()@:=1;", "part f(a:@)=1;",
            "part f()=@;", "part f()=1@)", "part f()=1;@;", "part f(a@:=1)=1;", "part f(@int)=1;",
            "part f(a:@x)=1;", "part f(a:[@])=1;", "part f(a:[int@)=1;", "part f(a:fn @int)=1;", "part f(a:fn(@,)int)=1;",
            "part f(a:fn(int,@)int)=1;", "part f(a:fn(int)@)=1;", "part f(a:fn(int@;", "part f(a:[int@,int])=1;"};
        for (String text : texts) {
            Court.readFault(1, text);
        }
        String[] cut = {"part", "part f", "part f(", "part f(a", "part f(a:", "part f()", "part f():int", "part f()=",
            "part f()=1", "part f()=1;part ", "part f()=(1", "part f()=[1 ", "part f()=let x\n", "part f()=1+"};
        for (String text : cut) {
            Court.readFault(1, text);
        }
        String[] es = {"@", "@)", "1 @2", "1(2@", "1+@", "1+@+2", "1+@let x=1 in x", "-@if 1 then 2 else 3", "1<2@<3", "1=2@=3",
            "f[1]:=1<2<3@<4", "f@:=1", "f()@:=1", "f[1]()@:=2", "(f[1])@:=2", "1@:=2", "f[@]", "f[1@,2]", "f(@,)",
            "f(1,@)", "f(1@", "[@,]", "[1,@]", "[1@;2]", "{@}", "{1;@}", "{1@,2}", "(@)", "(1@,2)", "new @1", "new(@)",
            "new(1@)", "new(1,@)", "new(1,2@,3)", "size@", "size(@)", "size(1@,2)", "print(@)", "print@[1]", "let @1=2 in 3",
            "let @int=1 in 2", "let x@:=1 in x", "let x @1", "let x=@in 2", "let x=1@", "let x: @=1 in x", "if@", "if 1@",
            "if 1 then@", "if 1 then 2@", "if 1 then 2 else@", "@then", "@else", "@in", "@int", "@fn", "@part", "@any",
            "@flag", "@,", "@:", "@:=", "@=", "@<", "@+", "@*", "@/", "@%", "@]", "@}", "@*1",
            "@#", "@\t", "@_", "@'1'", "@\u00e9", "@\0", "@>", "@&", "@.", "1@.5", "@abcdefghi", "@letletlet", "f(1)@abcdefghi",
            "let @abcdefghi=1 in 2", "1@a", "f @1", "f @f", "true @true", "!@", "1@!1"};
        for (String e : es) {
            faultE(1, e);
        }
        Court.readFault(1, "part @abcdefghi()=1;");
        Court.readFault(1, "part f(@abcdefghi)=1;");
        okE("let abcdefgh=1 in abcdefgh");
        ok(2, "part abcdefgh(zZzZzZzZ)=zZzZzZzZ;part main()=1;");
    }

    private static void paramTwice() {
        Court.readFault(2, "part f(a,@a)=1;");
        Court.readFault(2, "part f(a:int,b,c:[any],@b:flag)=1;");
        ok(2, "part f(a,A)=1;part main()=f(1,2);");
        ok(3, "part f(a)=1;part g(a)=let a=a in let a=a in a;part main()=1;");
        ok(2, "part f(f,main)=f;part main()=1;");
    }

    private static void tooManyListed() {
        StringBuilder b = new StringBuilder("part main()=1;");
        for (int i = 0; i < 39; i++) {
            b.append("part f").append((char) ('a' + i / 26)).append((char) ('a' + i % 26)).append("()=1;");
        }
        ok(40, b.toString());
        Court.readFault(3, b + " @part g()=1;");
        Court.readFault(3, b + " @part");
        Court.readFault(1, b + " @g");
        ok(2, "part f(a,b,c,d)=1;part main()=1;");
        Court.readFault(3, "part f(a,b,c,d,@e)=1;");
        Court.readFault(1, "part f(a,b,c,d,@)=1;");
        ok(2, "part f(a:fn(int,any,[int],fn()int)int)=1;part main()=1;");
        Court.readFault(3, "part f(a:fn(int,any,[int],fn()int,@flag)int)=1;");
        Court.readFault(3, "part f():fn(int,int,int,int, @[int])int=1;");
        Court.readFault(1, "part f():fn(int,int,int,int, @)int=1;");
        Court.readFault(3, "part f():fn(fn(int,int,int,int)int,int,fn(int,int,int,int, @fn)int=1;");
        okE("f(1,2,3,4)");
        okE("f(1,2,3,f(1,2,3,4))(1,2,3,4)");
        for (String first : new String[] {"5", "f", "-1", "!", "(", "[", "{", "let", "if", "true", "false", "new", "size", "print"}) {
            faultE(3, "f(1,2,3,4,@" + first);
            faultE(3, "[" + Court.repeat("1,", 20) + " @" + first);
        }
        for (String first : new String[] {")", ",", "]", ":=", "then", "int", "#", "+"}) {
            faultE(1, "f(1,2,3,4,@" + first);
            faultE(1, "[" + Court.repeat("1,", 20) + " @" + first);
        }
        okE("[" + Court.repeat("1,", 19) + "1]");
        okE("[" + Court.repeat("[1,2],", 19) + "[" + Court.repeat("1,", 19) + "1]]");
        faultE(3, "f([" + Court.repeat("1,", 20) + "@1])");
        okE("{" + Court.repeat("1;", 100) + "1}");
    }

    private static void tooManySigns() {
        for (String sign : new String[] {"+", "-", "*", "/", "%"}) {
            String forty = "1" + Court.repeat(sign + "1", 40);
            okE(forty);
            faultE(3, forty + "@" + sign + "1");
            okE(forty + "<" + forty);
            okE("[" + forty + "," + forty + "]");
            faultE(3, "1<" + forty + "@" + sign + "1");
        }
        String products = "1" + Court.repeat("*1", 40);
        okE(products + "+" + products + "-" + products + "=" + products);
        faultE(3, products + "+" + products + "@*1");
        okE("1" + Court.repeat("+1*1", 40));
        faultE(3, "1" + Court.repeat("-1*1", 40) + "@+1");
        okE(Court.repeat("f[0]:=1+", 20) + "1");
        String forty = "f" + Court.repeat("()[1]", 20);
        okE(forty);
        okE(forty + ":=1");
        faultE(3, forty + "@[0]");
        faultE(3, forty + "@(");
        okE(forty + "+" + forty);
        faultE(3, "1" + Court.repeat("[1]", 40) + "@[");
    }

    private static void tooManyOpen() {
        String[][] pairs = {{"(", ")"}, {"[", "]"}, {"{", "}"}, {"let a=1 in ", ""}, {"if true then 1 else ", ""}, {"-", ""},
            {"!", ""}};
        for (String[] pair : pairs) {
            String open = Court.repeat(pair[0], 40);
            okE(open + "1" + Court.repeat(pair[1], 40));
            faultE(3, open + "@" + pair[0] + "1");
            okE(Court.repeat(pair[0], 39) + "f(1)" + Court.repeat(pair[1], 39));
            okE(Court.repeat(pair[0], 39) + "f[1]:=2" + Court.repeat(pair[1], 39));
            faultE(3, open + "f@(1)");
            faultE(3, open + "f@[1]");
            faultE(3, open + "size@(1)");
            faultE(3, open + "print@(1)");
            faultE(3, open + "new@(1)");
            faultE(3, open + "@[");
            faultE(3, open + "@-1");
        }
        okE(Court.repeat("f[0]:=", 40) + "1");
        faultE(3, Court.repeat("f[0]:=", 40) + "f@[0]:=1");
        okE(Court.repeat("f(", 40) + Court.repeat(")", 40));
        faultE(3, Court.repeat("f(", 40) + "f@()");
        okE(Court.repeat("f[", 40) + "1" + Court.repeat("]", 40));
        // what is closed does not count
        okE("[" + Court.repeat("(1),", 19) + "(1)]" + Court.repeat("()", 40));
        okE("{" + Court.repeat("let a=1 in a;", 50) + "1}");
        okE("{" + Court.repeat("if 1 then 1 else 1;", 50) + "1}");
        okE("{" + Court.repeat("f[0]:=1;", 50) + "1}");
        okE("{" + Court.repeat("-1;", 50) + "1}");
        okE("let a=" + Court.repeat("-", 39) + "1 in " + Court.repeat("-", 39) + "1");
        faultE(3, "let a=" + Court.repeat("-", 39) + "@-1 in 1");
        okE("if " + Court.repeat("let a=1 in ", 39) + "1 then " + Court.repeat("!", 39) + "1 else 1");
        faultE(3, "if " + Court.repeat("let a=1 in ", 39) + "1 then " + Court.repeat("!", 39) + "@!1 else 1");
        okE(Court.repeat("- ", 40) + "1-" + Court.repeat("-", 40) + "1");
        // headers and kinds
        ok(2, "part f(a:" + Court.repeat("[", 39) + "int" + Court.repeat("]", 39) + ")=1;part main()=1;");
        Court.readFault(3, "part f(a:" + Court.repeat("[", 39) + "@[int");
        ok(1, "part main():" + Court.repeat("[", 40) + "int" + Court.repeat("]", 40) + "=1;");
        Court.readFault(3, "part main():" + Court.repeat("[", 40) + "@[int");
        ok(1, "part main():" + Court.repeat("fn()", 39) + "int=1;");
        Court.readFault(3, "part main():" + Court.repeat("fn()", 39) + "fn@()int=1;");
        Court.readFault(3, "part main():" + Court.repeat("fn()", 39) + "[@fn");
        ok(1, "part main():" + Court.repeat("fn(", 20) + Court.repeat(")int", 20) + "=1;");
        Court.readFault(3, "part main():" + Court.repeat("fn(", 20) + "@fn(");
        ok(1, "part main():[fn(fn()int,fn()int)[int]]=1;");
        okE("let a:" + Court.repeat("[", 39) + "int" + Court.repeat("]", 39) + "=1 in 1");
        faultE(3, "let a:" + Court.repeat("[", 39) + "@[int");
        faultE(3, Court.repeat("(", 38) + "let a:fn@(");
    }

    private static void numbers() {
        okE("2147483647");
        okE("00000000000000000000002147483647");
        okE("0");
        faultE(4, "@2147483648");
        faultE(4, "1+@2147483648");
        faultE(4, "-@2147483648");
        faultE(4, "@00000000000002147483648");
        faultE(4, "@99999999999999999999999999999999999999999999999999");
        faultE(4, "@18446744073709551617");
        faultE(4, "[@4294967297 #");
        Court.readFault(1, "part f(@99999999999)=1;");
        faultE(1, "1 @99999999999");
    }

    private static void names() {
        Court.readFault(5, "part main()=1;part @main()=2;");
        Court.readFault(6, "part main()=@x;");
        Court.readFault(6, "part main()=let x=@x in x;");
        Court.readFault(6, "part main()=let x=1 in @y;");
        Court.readFault(6, "part main()={let x=1 in x;@x};");
        Court.readFault(6, "part main()=(let x=1 in x)+@x;");
        Court.readFault(6, "part f(a)=a;part main()=@a;");
        Court.readFault(6, "part main()=@Main;");
        Court.readFault(6, "part f()=@x;part f()=1;");
        Court.readFault(5, "part f()=1;part @f()=x;part main()=y;");
        Court.readFault(6, "part f()=@x;part main(a)=1;");
        Court.readFault(5, "part f()=1;part @f()=1;");
        Court.readFault(7, "");
        Court.readFault(7, "  \n");
        Court.readFault(7, "part f()=1; ");
        Court.readFault(7, "part main(a)=1;");
        Court.readFault(7, "part mains()=1;part Main()=1;\n\n");
        ok(2, "part main()=f();part f()=1;");
        ok(2, "part f(main)=main;part main()=1;");
        ok(1, "part main()=main;");
    }

    private static void leastOfOneToken() {
        Court.readFault(2, "part f(a,b,c,d,@a)=1;");
        faultE(3, "f(1,2,3,4,@2147483648)");
        faultE(3, "[" + Court.repeat("1,", 20) + "@2147483648]");
        faultE(1, Court.repeat("(", 40) + "1 @{");
        faultE(1, Court.repeat("(", 40) + "1+@let");
        faultE(1, Court.repeat("(", 40) + "@:=");
        // a fault of a token comes ahead of all that is known only when all is read
        Court.readFault(1, "part f()=x;part f()=y;@;");
        Court.readFault(4, "part f()=x;part f()=@9999999999;");
    }

    private static void formerStays() {
        BlameCourt x = Court.judged("part f(x)=x;part main():int=f(3);");
        x.run(10);
        Court.due("read", NONE, Court.read(x, "part main()=1"));
        Court.due("fault(0)", 1, x.fault(0));
        Court.due("about(0)", 0, x.about(0));
        Court.due("about(1)", 2, x.about(1));
        Court.due("about(2)", 1, x.about(2));
        Court.due("about(3)", 2, x.about(3));
        Court.due("guard(0, 0)", 30, x.guard(0, 0));
        Court.due("part(0, 100)", 'f', x.part(0, 100));
        Court.due("told(3)", 4, x.told(3));
        Court.due("asked(1, 0)", 1, x.asked(1, 0));
        Court.due("run", 0, x.run(10));
        x.tell(0, false);
        Court.due("read", NONE, Court.read(x, "part g()=[[[1]]];"));
        Court.due("part(0, 0)", 0, x.part(0, 0));
        Court.due("part(1, 0)", 1, x.part(1, 0));
        Court.due("judge", 2, x.judge());
        Court.due("fault(0)", 0, x.fault(0));
        Court.due("fault(1)", NONE, x.fault(1));
        // a new one: all told, not judged, no run
        Court.due("read", 2, Court.read(x, "part f(x)=print(x);part main():int=f(3);"));
        Court.due("part(0, 0)", 1, x.part(0, 0));
        Court.due("about(2)", 0, x.about(2));
        Court.due("part(0, 3)", NONE, x.part(0, 3));
        Court.due("guard(0, 0)", NONE, x.guard(0, 0));
        Court.due("told(0)", NONE, x.told(0));
        Court.due("asked(0, 0)", NONE, x.asked(0, 0));
        Court.due("run", NONE, x.run(10));
        Court.due("told(0)", NONE, x.told(0));
        Court.due("runUntold", 0, x.runUntold(10));
        Court.due("out(0)", 3, x.out(0));
        Court.due("read", 1, Court.read(x, "part main()=1;"));
        Court.due("out(0)", 0, x.out(0));
        Court.due("part(1, 0)", NONE, x.part(1, 0));
    }

    private static void parts() {
        BlameCourt x = Court.readNew(" part main()=1;\npart abcdefgh(a,b:int,c)=a; part Z(a,b,c,d):any=d;");
        int[][] want = {{1, 0, 4, NONE, 1}, {1, 3, 8, NONE, 16}, {1, 4, 1, NONE, 44}};
        for (int k = 0; k < 3; k++) {
            for (int what = 0; what < 5; what++) {
                Court.due("part(" + k + ", " + what + ")", want[k][what], x.part(k, what));
            }
        }
        for (int i = 0; i < 8; i++) {
            Court.due("byte " + i, 'a' + i, x.part(1, 100 + i));
        }
        Court.due("byte -1", NONE, x.part(1, 99));
        Court.due("byte 8", NONE, x.part(1, 108));
        Court.due("byte 0 of Z", 'Z', x.part(2, 100));
        Court.due("byte 1 of Z", NONE, x.part(2, 101));
        for (int what : new int[] {-1, 5, 6, 50, Integer.MIN_VALUE, Integer.MAX_VALUE, Integer.MIN_VALUE + 100}) {
            Court.due("part(0, " + what + ")", NONE, x.part(0, what));
        }
        for (int k : new int[] {-1, 3, 40, Integer.MIN_VALUE, Integer.MAX_VALUE}) {
            Court.due("part(" + k + ", 0)", NONE, x.part(k, 0));
            Court.due("part(" + k + ", 100)", NONE, x.part(k, 100));
        }
    }
}
