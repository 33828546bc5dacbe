/** Promises 10 to 14: values, steps, fails, wrappings, and what is told of runs. */
public final class RunTest {
    private static final int NONE = BlameCourt.NONE;

    public static void main(String[] args) {
        values();
        steps();
        work();
        names();
        placeFails();
        divisionFails();
        blames();
        wrongs();
        deep();
        full();
        spent();
        wrappedRows();
        wrappedFunctions();
        askings();
        orderOfAskings();
        untoldRuns();
        wrongInputs();
        Court.close();
    }

    /** A run that ends with a value: its sort, what it is, the wrappings around it. */
    private static BlameCourt gives(String text, int sort, int content, int around) {
        BlameCourt x = Court.judged(text);
        Court.due("run of " + text, 0, x.run(20000));
        Court.due("told(0) of " + text, 0, x.told(0));
        Court.due("told(1) of " + text, NONE, x.told(1));
        Court.due("told(2) of " + text, NONE, x.told(2));
        Court.due("told(4) of " + text, sort, x.told(4));
        Court.due("told(5) of " + text, content, x.told(5));
        Court.due("told(6) of " + text, around, x.told(6));
        return x;
    }

    private static void made(BlameCourt x, int wrappings, int rows) {
        Court.due("told(8)", wrappings, x.told(8));
        Court.due("told(9)", rows, x.told(9));
    }

    private static void number(String e, int want) {
        gives("part main():int=" + e + ";", 0, want, 0);
    }

    private static void truth(String e, boolean want) {
        gives("part main():flag=" + e + ";", 1, want ? 1 : 0, 0);
    }

    private static void values() {
        number("5", 5);
        truth("true", true);
        truth("false", false);
        made(gives("part main():[int]=[7,8,9];", 3, 3, 0), 0, 1);
        made(gives("part main():[any]=[];", 3, 0, 0), 0, 1);
        made(gives("part main():[[int]]=new(2,[7,8,9]);", 3, 2, 0), 0, 2);
        made(gives("part main()=[7,8,9];", 3, 3, 1), 1, 1);
        made(gives("part main()=[];", 3, 0, 0), 0, 1);
        made(gives("part main()=[1,true];", 3, 2, 0), 0, 1);
        made(gives("part main()=7;", 0, 7, 0), 0, 0);
        made(gives("part f():int=1;part g(a:int):int=a;part main():fn(int)int=g;", 4, 1, 0), 0, 0);
        made(gives("part f():int=1;part main()=f;", 4, 0, 1), 1, 0);
        made(gives("part f()=1;part main()=f;", 4, 0, 0), 0, 0);
        made(gives("part main()=main;", 4, 0, 0), 0, 0);
        made(gives("part f()=1;part main():fn()int=f;", 4, 0, 1), 1, 0);
        made(gives("part f(r:[int])=r;part main():[int]=f([1]);", 3, 1, 2), 2, 1);
    }

    /** The steps of an e, by their places in it: fuel that runs out fails there. */
    private static void stepsAt(String e, int... places) {
        String text = "part f(a)=a;part main()=" + e + ";";
        BlameCourt x = Court.judged(text);
        for (int fuel = 0; fuel < places.length; fuel++) {
            Court.due("run(" + fuel + ") of " + e, 7, x.run(fuel));
            Court.due("told(1), run(" + fuel + ") of " + e, places[fuel] < 0 ? 10 : 24 + places[fuel], x.told(1));
            Court.due("told(3), run(" + fuel + ") of " + e, fuel, x.told(3));
            Court.due("told(4), run(" + fuel + ") of " + e, NONE, x.told(4));
            Court.due("runUntold(" + fuel + ") of " + e, 7, x.runUntold(fuel));
            Court.due("told(1), runUntold(" + fuel + ") of " + e, places[fuel] < 0 ? 10 : 24 + places[fuel], x.told(1));
        }
        Court.due("run(" + places.length + ") of " + e, 0, x.run(places.length));
        Court.due("told(3) of " + e, places.length, x.told(3));
        Court.due("run(20000) of " + e, 0, x.run(20000));
        Court.due("told(3) of " + e, places.length, x.told(3));
        Court.due("runUntold(20000) of " + e, 0, x.runUntold(20000));
        Court.due("told(3) of " + e, places.length, x.told(3));
    }

    private static void steps() {
        int inF = -1;
        stepsAt("1", 0);
        stepsAt("true", 0);
        stepsAt("f", 0);
        stepsAt("[]", 0);
        stepsAt("[1,2]", 0, 1, 3);
        stepsAt("(1)", 0, 1);
        stepsAt("((1))", 0, 1, 2);
        stepsAt("{1}", 0, 1);
        stepsAt("{1;2;3}", 0, 1, 3, 5);
        stepsAt("1+2", 0, 0, 2);
        stepsAt("1+2-3", 0, 0, 0, 2, 4);
        stepsAt("1+2*3<4", 0, 0, 0, 2, 2, 4, 6);
        stepsAt("4*3*2=1%1", 0, 0, 0, 0, 2, 4, 6, 6, 8);
        stepsAt("-1", 0, 1);
        stepsAt("- -1+2", 0, 0, 2, 3, 5);
        stepsAt("!(1<2)", 0, 1, 2, 2, 4);
        stepsAt("let x=1 in x", 0, 6, 11);
        stepsAt("if true then 1 else 2", 0, 3, 13);
        stepsAt("if false then 1 else 2", 0, 3, 21);
        stepsAt("new(1,2)", 0, 4, 6);
        stepsAt("size([])", 0, 5);
        stepsAt("print(1)", 0, 6);
        stepsAt("[1][0]", 0, 0, 1, 4);
        stepsAt("[1][0]:=2", 0, 0, 1, 4, 8);
        stepsAt("[[1]][0][0]", 0, 0, 0, 1, 2, 6, 9);
        stepsAt("[[1]][0][0]:=2+3", 0, 0, 0, 1, 2, 6, 9, 13, 13, 15);
        stepsAt("f(1)", 0, 0, 2, inF);
        stepsAt("f(f)(1)", 0, 0, 0, 2, inF, 5, inF);
        stepsAt("(f)(1)+2", 0, 0, 0, 1, 4, inF, 7);
    }

    private static void work() {
        number("2+3*4", 14);
        number("(2+3)*4", 20);
        number("10-3-4", 3);
        number("100/7/2", 7);
        number("100%7*3", 6);
        number("2*3%4", 2);
        number("-7/2", -3);
        number("-7%3", -1);
        number("7%-3", 1);
        number("7- -3", 10);
        number("--5", 5);
        number("2147483647+1", Integer.MIN_VALUE);
        number("-2147483647-2", Integer.MAX_VALUE);
        number("65536*65536", 0);
        number("2147483647*2147483647", 1);
        number("(-2147483647-1)/-1", Integer.MIN_VALUE);
        number("(-2147483647-1)%-1", 0);
        number("-(-2147483647-1)", Integer.MIN_VALUE);
        truth("1<2", true);
        truth("2<2", false);
        truth("-1<0", true);
        truth("2=2", true);
        truth("2=3", false);
        truth("1+1=2*1", true);
        truth("!true", false);
        truth("!!true", true);
        number("if 1<2 then 3 else 4", 3);
        number("if 2<1 then 3 else 4", 4);
        number("{1;2;3}", 3);
        number("size([1,2,3])", 3);
        number("size(new(1000,true))", 1000);
        number("size(new(0,true))", 0);
        number("[4,5,6][2]", 6);
        number("new(3,8)[2]", 8);
        number("[4,5,6][1]:=9", 9);
        number("let r=[4,5] in {r[1]:=r[0]:=7;r[0]*10+r[1]}", 77);
        number("let r=new(2,[1]) in {r[0][0]:=5;r[1][0]}", 5);
        number("let r=[1] in let s=r in {s[0]:=2;r[0]}", 2);
        number("[1][0]:=2+3", 5);
        BlameCourt x = gives("part main():int=print(3)+print(-4)*print(5);", 0, -17, 0);
        Court.due("told(7)", 3, x.told(7));
        Court.due("out(0)", 3, x.out(0));
        Court.due("out(1)", -4, x.out(1));
        Court.due("out(2)", 5, x.out(2));
        Court.due("out(3)", 0, x.out(3));
        // parts from left to right
        x = gives("part f(a:int,b:int):int=a-b;part main():int=[print(1),print(2)][print(0)]:=f(print(3),print(4));", 0, -1, 0);
        for (int i = 0; i < 5; i++) {
            Court.due("out(" + i + ")", new int[] {1, 2, 0, 3, 4}[i], x.out(i));
        }
        x = gives("part main():int=size(new(print(2),print(9)));", 0, 2, 0);
        Court.due("told(7)", 2, x.told(7));
    }

    private static void names() {
        number("let x=1 in let x=x+1 in let x=x*5 in x", 10);
        number("let x=1 in (let x=2 in x)*10+x", 21);
        number("let x=let x=3 in x+1 in x", 4);
        number("let main=4 in main", 4);
        gives("part f(a:int,b:int):int=let a=b in let c=a in a*10+c+b;part main():int=f(1,2);", 0, 24, 0);
        gives("part f(f:int):int=f;part main():int=f(5);", 0, 5, 0);
        gives("part f(n:int):int=if n<2 then 1 else let m=f(n-1) in n*m;part main():int=f(10);", 0, 3628800, 0);
        gives("part g(a:int,b:int,c:int,d:int):int=a*1000+b*100+c*10+d;part main():int=g(1,2,3,4);", 0, 1234, 0);
    }

    private static void placeFails() {
        Court.fails(1, NONE, "part main():int=[1,2]@[2];");
        Court.fails(1, NONE, "part main():int=[1,2]@[-1];");
        Court.fails(1, NONE, "part main()=[]@[0];");
        Court.fails(1, NONE, "part main():int=[1,2]@[2147483647];");
        Court.fails(1, NONE, "part main():int=[1,2]@[2]:=3;");
        Court.fails(1, NONE, "part main():[int]=@new(1001,0);");
        Court.fails(1, NONE, "part main():[int]=@new(-1,0);");
        Court.fails(1, NONE, "part main():[int]=@new(-2147483647-1,0);");
        Court.fails(1, NONE, "part main():int=let r:any=[[1]] in r[0]@[1];");
        Court.due("told(7)", 2, Court.fails(1, NONE, "part main():int=[1]@[print(7)]:=print(8);").told(7));
        Court.due("told(7)", 2, Court.fails(1, NONE, "part main():[int]=@new(print(-7),print(8));").told(7));
        Court.due("told(9)", 0, Court.fails(1, NONE, "part main():[[int]]=[@new(-1,8)];").told(9));
        Court.failsUntold(1, "part main():int=[1,2]@[2];");
        Court.failsUntold(1, "part main():int=[1,2]@[-1]:=true;");
        Court.failsUntold(1, "part main():[int]=@new(1001,0);");
        // ahead of what a wrapping asks
        Court.fails(1, NONE, "part f(r:[any]):any=r@[1]:=true;part main()=f([1]);");
    }

    private static void divisionFails() {
        Court.fails(2, NONE, "part main():int=1@/0;");
        Court.fails(2, NONE, "part main():int=1 @% 0;");
        Court.fails(2, NONE, "part main():int=2*3@/(1-1)*4;");
        Court.due("told(7)", 2, Court.fails(2, NONE, "part main():int=print(1)@%print(0);").told(7));
        Court.failsUntold(2, "part main():int=1@/0;");
        Court.fails(3, 0, "part main():int=let a:any=true in 0/@a;");
    }

    private static void blames() {
        String any = "part main()=let a:any=true in ";
        for (String e : new String[] {"@a+1", "1+@a", "2*@a", "@a<1", "1=@a", "-@a", "new(@a,1)", "print(@a)", "[1][@a]", "size(@a)",
            "a@[0]", "a@[0]:=1", "a@()", "a@(1)", "let b:int=@a in b", "let b:[int]=@a in b", "let b:fn()int=@a in b",
            "[1][0]:=@a"}) {
            Court.fails(3, 0, any + e + ";");
        }
        String number = "part f(x:flag,y:[flag],z:fn(any)any)=x;part main()=let a:any=1 in ";
        for (String e : new String[] {"!@a", "if @a then 1 else 2", "let b:flag=@a in b", "f(@a,a,a)", "f(true,@a,a)", "f(true,[],@a)",
            "(f)(@a,a,a)"}) {
            Court.fails(3, 1, number + e + ";");
        }
        Court.fails(3, 0, "part main():int=@let a:any=true in a;");
        Court.fails(3, 1, "part f(x)=x;part g(x):int=@f(x);part main()=g(true);");
        // a function of another number
        Court.fails(3, 0, "part main()=let a:any=main in a@(1);");
        Court.fails(3, 1, "part f(x)=x;part main()=let a:any=f in let b:fn()any=@a in b;");
        Court.fails(3, 1, "part f(x)=x;part main()=let a:any=f in a@();");
        gives("part f(x)=x;part main()=let a:any=f in a(3);", 0, 3, 0);
        BlameCourt x = Court.fails(3, 0, "part main()=let a:any=true in {print(3);@a+print(4)};");
        Court.due("told(7)", 1, x.told(7));
        Court.due("told(3)", 7, x.told(3));
    }

    private static void wrongs() {
        String t = "part f(x,y)=x;part main()=";
        for (String e : new String[] {"@true+1", "1-@true", "1*@f", "@[]/1", "@true<1", "1=@false", "-@true", "!@1", "if @1 then 1 else 2",
            "new(@true,1)", "size(@1)", "size(@f)", "print(@true)", "1@[0]", "f@[0]", "[1][@true]", "true@[0]:=1",
            "1@()", "f@(1)", "f@()", "f@(1,2,3)", "[]@(1)", "{f}@(1)", "f(1,2)@(3)", "@(true)+1"}) {
            Court.failsUntold(4, t + e + ";");
        }
        Court.due("told(7)", 0, Court.failsUntold(4, t + "f@(print(1));").told(7));
        Court.due("told(7)", 0, Court.failsUntold(4, t + "@true+print(1);").told(7));
        Court.due("told(7)", 0, Court.failsUntold(4, t + "1@[print(1)];").told(7));
        Court.due("told(7)", 1, Court.failsUntold(4, t + "print(1)+@true;").told(7));
        Court.due("told(3)", 3, Court.failsUntold(4, t + "1+@true;").told(3));
    }

    private static void deep() {
        BlameCourt x = Court.fails(5, NONE, "part main():int=main@();");
        Court.due("told(3)", 200, x.told(3));
        x = Court.failsUntold(5, "part main():int=main@();");
        Court.due("told(3)", 200, x.told(3));
        gives("part f(n:int):int=if n=0 then 7 else f(n-1);part main():int=f(98);", 0, 7, 0);
        Court.fails(5, NONE, "part f(n:int):int=if n=0 then 7 else f@(n-1);part main():int=f(99);");
        gives("part f(n:int):int=if n=0 then 7 else f(n-1);part main():int=f(98)+f(98)+f(98);", 0, 21, 0);
        // what a wrapping asks comes ahead of the call
        String text = "part f(n:int,g:fn(any)int):int=if n=0 then g(1) else f(n-1,g);part h(x:flag):int=1;part main():int=f(98,@h);";
        x = Court.fails(3, 0, text);
        Court.due("asked(2, 0)", 1, x.asked(2, 0));
        Court.due("asked(0, 2)", 1, x.asked(0, 2));
        x = Court.fails(5, NONE, text.replace("@", "").replace("g(1)", "g@(true)"));
        Court.due("asked(2, 0)", 1, x.asked(2, 0));
        Court.due("asked(0, 2)", 1, x.asked(0, 2));
    }

    private static void full() {
        String print = "part p(n:int):int=if n=0 then 0 else {print(n);p(n-1)};part main():int={p(90);p(90);p(20);";
        BlameCourt x = gives(print + "0};", 0, 0, 0);
        Court.due("told(7)", 200, x.told(7));
        Court.due("out(0)", 90, x.out(0));
        Court.due("out(199)", 1, x.out(199));
        Court.due("out(200)", 0, x.out(200));
        x = Court.fails(6, NONE, print + "@print(5)};");
        Court.due("told(7)", 200, x.told(7));
        Court.due("out(199)", 1, x.out(199));
        Court.failsUntold(6, print + "@print(5)};");

        String places = "part main():int={new(1000,0);new(1000,true);new(1000,0);new(999,0);[1];";
        x = gives(places + "[];new(0,1);0};", 0, 0, 0);
        Court.due("told(9)", 7, x.told(9));
        x = Court.fails(6, NONE, places + "[];@[1];0};");
        Court.due("told(9)", 6, x.told(9));
        Court.fails(6, NONE, places + "@new(1,1);0};");
        Court.fails(1, NONE, places + "@new(1001,1);0};");
        Court.failsUntold(6, places + "@new(1,1);0};");
        Court.fails(6, NONE, "part main():int={new(1000,0);new(1000,0);new(1000,0);new(999,0);size(@[1,2])};");

        String rows = "part r(n:int):int=if n=0 then 0 else {[];[];[];[];[];[];[];[];[];[];r(n-1)};part main():int={r(90);r(9);"
            + "[];[];[];[];[];[];[];[];[];";
        x = gives(rows + "[];0};", 0, 0, 0);
        made(x, 0, 1000);
        made(Court.fails(6, NONE, rows + "[];@[];0};"), 0, 1000);
        made(Court.fails(6, NONE, rows + "[];@new(0,0);0};"), 0, 1000);
        made(Court.fails(6, NONE, rows + "let a:any=@[1] in 0};"), 0, 1000);
        made(gives(rows + "let a:any=main in 0};", 0, 0, 0), 1, 999);
        made(Court.fails(6, NONE, rows + "let a:any=main in {@[];0}};"), 1, 999);

        String around = "part f(n:int,r:any):any=if n=0 then r else let s:[int]=r in f(n-1,s);part main():any=";
        made(gives(around + "f(9,[1]);", 3, 1, 19), 19, 1);
        made(gives(around + "let s:[int]=f(9,[1]) in {s[0]:=3;s[0]};", 0, 3, 0), 20, 1);
        x = Court.fails(6, NONE, around + "let s:[int]=f(9,[1]) in let t:any=@s in 1;");
        made(x, 20, 1);
        Court.due("asked(1, 1), the last with what it goes on with", 2 + 2, x.asked(1, 1));
        made(Court.fails(6, NONE, around.replace("f(n-1,s)", "f(n-1,@s)") + "f(10,[1]);"), 20, 1);
        made(gives("part f(n:int,r:any):any=if n=0 then r else let s:fn()any=r in f(n-1,s);part main()=f(50,main);", 4, 1, 0), 0, 0);
    }

    private static void spent() {
        String text = "part l(n:int):int=if n=0 then 0 else {l(n-1);l(n-1)};part main():int=l(15);";
        BlameCourt x = Court.judged(text);
        Court.due("run(20000)", 7, x.run(20000));
        Court.due("told(0)", 7, x.told(0));
        Court.due("told(2)", NONE, x.told(2));
        Court.due("told(3)", 20000, x.told(3));
        Court.due("runUntold(20000)", 7, x.runUntold(20000));
        Court.due("told(3)", 20000, x.told(3));
        Court.due("run(0)", 7, x.run(0));
        Court.due("told(1)", text.length() - 6, x.told(1));
        Court.due("told(3)", 0, x.told(3));
        for (int fuel : new int[] {-1, 20001, Integer.MIN_VALUE, Integer.MAX_VALUE}) {
            Court.due("run(" + fuel + ")", NONE, x.run(fuel));
            Court.due("runUntold(" + fuel + ")", NONE, x.runUntold(fuel));
            Court.due("told(3) of the run ahead of it", 0, x.told(3));
            Court.due("told(0) of the run ahead of it", 7, x.told(0));
        }
    }

    private static void wrappedRows() {
        // read: what is within, then from a's kind to b's
        BlameCourt x = Court.fails(3, 1, "part f(r:[int]):int=r[0];part main():int=let a:any=[true] in f(@a);");
        made(x, 2, 1);
        Court.due("asked(1, 1)", 3, x.asked(1, 1));
        Court.due("asked(1, 0)", 3, x.asked(1, 0));
        Court.due("asked(0, 1)", 0, x.asked(0, 1));
        Court.due("asked(0, 0)", 0, x.asked(0, 0));
        // written: from b's kind to a's, with the parties the other way round
        x = Court.fails(3, 0, "part f(r:[any]):any=r[0]:=true;part main():int=let a:[int]=[1] in {f(@a);a[0]};");
        made(x, 1, 1);
        Court.due("asked(1, 0)", 1, x.asked(1, 0));
        Court.due("asked(0, 0)", 1, x.asked(0, 0));
        Court.due("asked(0, 1)", 1, x.asked(0, 1));
        // what is written goes through to what is within
        x = gives("part f(r:[any]):any=r[0]:=5;part main():int=let a:[int]=[1] in {f(a);a[0]};", 0, 5, 0);
        Court.due("asked(0, 1)", 1, x.asked(0, 1));
        // the value of := is what was written as its own guard left it, not as the wrapping did
        x = gives("part f(r:[[any]]):[any]=r[0]:=[5];part main():[any]=let a:[[int]]=[[1]] in f(a);", 3, 1, 1);
        made(x, 3, 3);
        Court.due("asked(0, 0)", 1, x.asked(0, 0));
        Court.due("asked(0, 1)", 1, x.asked(0, 1));
        // what comes out of a wrapped row of rows is wrapped itself
        x = gives("part f(r:[[any]]):[any]=r[0];part main():[any]=f([[1,2]]);", 3, 2, 1);
        made(x, 2, 2);
        Court.due("asked(1, 0)", 2, x.asked(1, 0));
        made(gives("part f(r:[any]):int=size(r);part main():int=f([1,2]);", 0, 2, 0), 1, 1);
        Court.fails(1, NONE, "part f(r:[any])=r@[2];part main()=f([1,2]);");
        // all that a wrapping asks is asked by the place of the guard that laid it
        Court.fails(3, 1, "part f(r:[[int]]):int=r[0][0];part main():int=f(@[[true,1],[1,true]]);");
    }

    private static void wrappedFunctions() {
        String head = "part a(f:fn(int)int)=f(10);part b(x)=true;part main()=a(@b);";
        BlameCourt x = Court.fails(3, 2, head);
        made(x, 1, 0);
        Court.due("asked(2, 0)", 2, x.asked(2, 0));
        Court.due("asked(0, 2)", 1, x.asked(0, 2));
        // what a wrapped function is given is asked with the parties the other way round
        x = Court.fails(3, 0, "part a(f:fn(any)any)=f(true);part b(x:int):int=x;part main()=a(@b);");
        Court.due("asked(2, 0)", 1, x.asked(2, 0));
        Court.due("asked(0, 2)", 1, x.asked(0, 2));
        Court.due("asked(0, 0)", 1, x.asked(0, 0));
        // values from left to right, ahead of the call
        x = Court.fails(3, 0, "part a(f:fn(any,any,any)any)=f(1,true,true);part b(x:int,y:int,z:int):int=print(x);part main()=a(@b);");
        Court.due("asked(0, 2)", 2, x.asked(0, 2));
        Court.due("told(7)", 0, x.told(7));
        // a function that is taken and given back is wrapped on its way, both times
        x = gives("part id(f:fn(int)int):any=f;part b(x)=x+1;part main():int=let g:any=id(b) in g(4);", 0, 5, 0);
        made(x, 2, 0);
        // functions within functions: the parties are turned twice
        x = Court.fails(3, 3, "part a(f:fn(fn(int)int)int):int=f(c);part b(g)=g(true);part c(x:int):int=x;part main():int=a(@b);");
        Court.due("asked(3, 0)", 2, x.asked(3, 0));
        Court.due("asked(0, 3)", 2, x.asked(0, 3));
        made(x, 2, 0);
    }

    private static void askings() {
        // any to a row of int is two askings, any to int one, like kinds none
        BlameCourt x = gives("part main()=let a:any=1 in let b:int=a in 0;", 0, 0, 0);
        Court.due("asked(0, 0)", 3, x.asked(0, 0));
        x = gives("part main()=let a:any=[] in let b:[int]=a in 0;", 0, 0, 0);
        Court.due("asked(0, 0)", 1 + 2 + 1, x.asked(0, 0));
        x = gives("part main()=let a:any=[] in let b:[any]=a in 0;", 0, 0, 0);
        Court.due("asked(0, 0)", 1 + 1 + 1, x.asked(0, 0));
        x = gives("part main()=let a:any=[1] in let b:[any]=a in 0;", 0, 0, 0);
        Court.due("asked(0, 0)", 2 + 1 + 1, x.asked(0, 0));
        x = gives("part main():int=let a:int=1 in a;", 0, 1, 0);
        Court.due("asked(0, 0)", 0, x.asked(0, 0));
        x = gives("part main()=let a:any=main in let b:fn()int=a in 0;", 0, 0, 0);
        Court.due("asked(0, 0)", 1 + 2 + 1, x.asked(0, 0));
        Court.due("asked(1, 0)", NONE, x.asked(1, 0));
        Court.due("asked(0, 1)", NONE, x.asked(0, 1));
        Court.due("asked(-1, 0)", NONE, x.asked(-1, 0));
        Court.due("asked(0, -1)", NONE, x.asked(0, -1));
        Court.due("asked(most, most)", NONE, x.asked(Integer.MAX_VALUE, Integer.MAX_VALUE));
        // the way of an if that is not gone is not asked
        x = gives("part main():any=if true then 1 else [1];", 0, 1, 0);
        Court.due("asked(0, 0)", 1, x.asked(0, 0));
        made(x, 0, 0);
        x = gives("part main():any=if false then 1 else [1];", 3, 1, 1);
        Court.due("asked(0, 0)", 2, x.asked(0, 0));
        // a blame counts the asking that broke
        x = Court.fails(3, 0, "part main():int=let a:any=true in let b:[int]=@a in 1;");
        Court.due("asked(0, 0)", 1 + 1, x.asked(0, 0));
    }

    private static void orderOfAskings() {
        // each is asked as it is made, also what goes into a row
        BlameCourt x = Court.fails(3, 0, "part main():any=let a:any=true in [print(@a),print(1)];");
        Court.due("told(7)", 0, x.told(7));
        x = Court.fails(6, NONE, around21() + "[print(1),@s,print(2),1];");
        Court.due("told(7)", 1, x.told(7));
        x = Court.fails(3, 0, "part main():any=let a:any=true in a@[print(1)];");
        Court.due("told(7)", 0, x.told(7));
        x = Court.fails(3, 0, "part main():any=let a:any=true in a@(print(1));");
        Court.due("told(7)", 0, x.told(7));
        x = Court.fails(3, 1, "part f(x:int,y:int):int=1;part main():any=let a:any=true in f(@a,print(1));");
        Court.due("told(7)", 0, x.told(7));
    }

    /** A main that has in s a row with twenty wrappings. */
    private static String around21() {
        return "part f(n:int,r:any):any=if n=0 then r else let s:[int]=r in f(n-1,s);part main():any=let s:[int]=f(9,[1]) in ";
    }

    private static void untoldRuns() {
        BlameCourt x = Court.readNew("part f(r:[int]):int=r[0];part main():int=let a:any=[true] in f(a);");
        Court.due("run of what isn't judged", NONE, x.run(100));
        Court.due("told(0)", NONE, x.told(0));
        Court.due("runUntold", 0, x.runUntold(100));
        Court.due("told(4)", 1, x.told(4));
        Court.due("told(6)", 0, x.told(6));
        made(x, 0, 1);
        for (int g = 0; g < 2; g++) {
            for (int t = 0; t < 2; t++) {
                Court.due("asked", 0, x.asked(g, t));
            }
        }
        Court.due("judge", 2, x.judge());
        Court.due("told(4) behind judge", 1, x.told(4));
        Court.due("run", 3, x.run(100));
        Court.due("told(4)", NONE, x.told(4));
        Court.due("tell", true, x.tell(0, false));
        Court.due("told(0) behind tell", 3, x.told(0));
        Court.due("asked(1, 0) behind tell", 3, x.asked(1, 0));
        Court.due("runUntold behind tell", 0, x.runUntold(100));
        // what doesn't fit can be run
        BlameCourt y = Court.readNew("part f(x:int):int=x;part main():int=let a:int=true in f(a);");
        Court.due("judge", NONE, y.judge());
        Court.due("run", NONE, y.run(100));
        Court.due("runUntold", 0, y.runUntold(100));
        Court.due("told(4)", 1, y.told(4));
        Court.due("told(5)", 1, y.told(5));
        // the same steps as with guards
        BlameCourt z = Court.judged("part f(x)=[x,1];part main():int=let a=f(3) in {a[0]:=a[1];a[0]+size(a)};");
        Court.due("run", 0, z.run(1000));
        int steps = z.told(3);
        Court.due("told(5)", 3, z.told(5));
        Court.due("runUntold", 0, z.runUntold(1000));
        Court.due("told(3)", steps, z.told(3));
        Court.due("told(5)", 3, z.told(5));
    }

    private static void wrongInputs() {
        BlameCourt x = gives("part main():int=print(5);", 0, 5, 0);
        for (int what : new int[] {-1, 10, 11, 100, Integer.MIN_VALUE, Integer.MAX_VALUE}) {
            Court.due("told(" + what + ")", NONE, x.told(what));
        }
        for (int i : new int[] {-1, 1, 199, 200, 201, Integer.MIN_VALUE, Integer.MAX_VALUE}) {
            Court.due("out(" + i + ")", 0, x.out(i));
        }
        Court.due("out(0)", 5, x.out(0));
        x.run(0);
        Court.due("out(0) of a run that came to no print", 0, x.out(0));
    }
}
