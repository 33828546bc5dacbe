import java.util.ArrayList;
import java.util.List;

/** Texts made up from a seed: mostly programs that can be judged, with kinds told here and left out there. */
final class Programs {
    private static final String[] NAMES = {"a", "b", "cc", "dd", "e", "x", "y", "Zed", "partial", "longname"};

    private long seed;
    private final List<String> partNames = new ArrayList<>();
    private final List<Oracle.Kind> partKinds = new ArrayList<>();
    private final List<String> names = new ArrayList<>();
    private final List<Oracle.Kind> kinds = new ArrayList<>();
    private int budget;
    /** Calls go to later parts as a rule, so that most runs come to an end. */
    private int inPart;

    Programs(long seed) {
        this.seed = seed * 6364136223846793005L + 1442695040888963407L;
        below(2);
    }

    int below(int n) {
        seed = seed * 6364136223846793005L + 1442695040888963407L;
        return (int) ((seed >>> 33) % n);
    }

    private boolean chance(int percent) {
        return below(100) < percent;
    }

    Oracle.Kind kind(int depth) {
        int w = below(depth <= 0 ? 3 : 8);
        if (w == 0) {
            return Oracle.INT;
        }
        if (w == 1) {
            return Oracle.FLAG;
        }
        if (w == 2) {
            return Oracle.ANY;
        }
        if (w <= 5) {
            return Oracle.row(kind(depth - 1));
        }
        List<Oracle.Kind> takes = new ArrayList<>();
        for (int i = below(3); i > 0; i--) {
            takes.add(kind(depth - 1));
        }
        return new Oracle.Kind('f', takes, kind(depth - 1));
    }

    static String text(Oracle.Kind kind) {
        switch (kind.form) {
            case 'i':
                return "int";
            case 'b':
                return "flag";
            case 'a':
                return "any";
            case '[':
                return "[" + text(kind.gives) + "]";
            default:
                StringBuilder b = new StringBuilder("fn(");
                for (int i = 0; i < kind.takes.size(); i++) {
                    b.append(i > 0 ? "," : "").append(text(kind.takes.get(i)));
                }
                return b.append(")").append(text(kind.gives)).toString();
        }
    }

    String program() {
        int parts = 1 + below(6);
        for (int k = 0; k < parts; k++) {
            partNames.add(k == 0 ? "main" : "p" + (char) ('a' + k));
            List<Oracle.Kind> takes = new ArrayList<>();
            for (int i = k == 0 ? 0 : below(4); i > 0; i--) {
                takes.add(chance(35) ? Oracle.ANY : kind(2));
            }
            partKinds.add(new Oracle.Kind('f', takes, chance(35) ? Oracle.ANY : kind(2)));
        }
        List<String> texts = new ArrayList<>();
        for (int k = 0; k < partKinds.size(); k++) {
            inPart = k;
            StringBuilder text = new StringBuilder();
            part(text, k);
            texts.add(below(texts.size() + 1), text.toString());
        }
        return String.join("", texts);
    }

    private void part(StringBuilder text, int k) {
        names.clear();
        kinds.clear();
        Oracle.Kind kind = partKinds.get(k);
        text.append("part ").append(partNames.get(k)).append("(");
        for (int i = 0; i < kind.takes.size(); i++) {
            String name = String.valueOf((char) ('a' + i));
            names.add(name);
            kinds.add(kind.takes.get(i));
            text.append(i > 0 ? "," : "").append(name);
            if (kind.takes.get(i).form != 'a' || chance(50)) {
                text.append(":").append(text(kind.takes.get(i)));
            }
        }
        text.append(")");
        if (kind.gives.form != 'a' || chance(50)) {
            text.append(":").append(text(kind.gives));
        }
        budget = 6 + below(30);
        text.append("=").append(e(kind.gives, 5)).append(";");
        text.append(chance(30) ? "\n" : chance(30) ? " " : "");
    }

    /** An e whose kind fits, as a rule. */
    String e(Oracle.Kind want, int depth) {
        budget--;
        if (chance(1)) {
            return e(kind(2), depth - 1);
        }
        if (depth <= 0 || budget <= 0) {
            return simple(want);
        }
        switch (below(20)) {
            case 0:
                return "if " + loose(Oracle.FLAG, depth - 1) + " then " + e(want, depth - 1) + " else " + e(want, depth - 1);
            case 1:
            case 2:
            case 3:
                return let(want, depth);
            default:
                return q(want, depth);
        }
    }

    /** An e of this kind, or one of which nothing is known. */
    private String loose(Oracle.Kind kind, int depth) {
        if (chance(70)) {
            return q(kind, depth);
        }
        List<String> fit = new ArrayList<>();
        for (int i = 0; i < names.size(); i++) {
            if (kinds.get(i).form == 'a' && names.lastIndexOf(names.get(i)) == i) {
                fit.add(names.get(i));
            }
        }
        for (int k = inPart + 1; k < partKinds.size() && depth > 0; k++) {
            if (partKinds.get(k).gives.form == 'a') {
                fit.add(partNames.get(k) + values(partKinds.get(k).takes, depth));
            }
        }
        return fit.isEmpty() ? q(kind, depth) : fit.get(below(fit.size()));
    }

    private String let(Oracle.Kind want, int depth) {
        Oracle.Kind kind = chance(30) ? Oracle.ANY : kind(2);
        String name = NAMES[below(NAMES.length)];
        boolean told = chance(60) || kind.form == 'a';
        String value = e(kind, depth - 1);
        names.add(name);
        kinds.add(kind);
        String body = e(want, depth - 1);
        names.remove(names.size() - 1);
        kinds.remove(kinds.size() - 1);
        return "let " + name + (told ? ":" + text(kind) : "") + "=" + value + " in " + body;
    }

    /** An e that may stand anywhere: no let, no if, and no sign outside of ( ). */
    private String q(Oracle.Kind want, int depth) {
        budget--;
        if (depth <= 0 || budget <= 0) {
            return simple(want);
        }
        switch (below(14)) {
            case 0:
                return "(" + e(want, depth - 1) + ")";
            case 1:
                return "{" + e(kind(1), depth - 1) + ";" + e(want, depth - 1) + "}";
            case 2:
            case 3:
                return "(" + e(Oracle.row(alike(want)), depth - 1) + ")["
                    + (chance(75) ? "0" : loose(Oracle.INT, depth - 2)) + "]";
            case 4:
                return "((" + e(Oracle.row(want), depth - 1) + ")[" + (chance(80) ? 0 : below(3)) + "]:=" + e(want, depth - 1) + ")";
            case 5:
            case 6:
            case 7:
                return call(want, depth);
            case 8:
                return anyCall(want, depth);
            case 9:
                return want.form == 'a' ? q(kind(2), depth) : simple(want);
            default:
                return made(want, depth);
        }
    }

    private String made(Oracle.Kind want, int depth) {
        switch (want.form) {
            case 'i':
                return number(depth);
            case 'b':
                return truth(depth);
            case 'a':
                return q(kind(2), depth);
            case '[':
                return row(want, depth);
            default:
                return simple(want);
        }
    }

    private String number(int depth) {
        switch (below(8)) {
            case 0:
                return "print(" + loose(Oracle.INT, depth - 1) + ")";
            case 1:
                return "size(" + loose(Oracle.row(kind(1)), depth - 1) + ")";
            case 2:
                return "-" + loose(Oracle.INT, depth - 1);
            default:
                StringBuilder b = new StringBuilder("(" + loose(Oracle.INT, depth - 1));
                for (int i = 1 + below(3); i > 0; i--) {
                    b.append("+-*/%+-*".charAt(below(8))).append(loose(Oracle.INT, depth - 2));
                }
                return b.append(")").toString();
        }
    }

    private String truth(int depth) {
        if (chance(30)) {
            return "!" + loose(Oracle.FLAG, depth - 1);
        }
        return "(" + loose(Oracle.INT, depth - 1) + (chance(50) ? "<" : "=") + loose(Oracle.INT, depth - 1) + ")";
    }

    private String row(Oracle.Kind want, int depth) {
        if (chance(35)) {
            return "new(" + (chance(90) ? String.valueOf(1 + below(3)) : loose(Oracle.INT, depth - 1)) + ","
                + e(want.gives, depth - 1) + ")";
        }
        StringBuilder b = new StringBuilder("[");
        int n = chance(10) ? 0 : 1 + below(3);
        for (int i = 0; i < n; i++) {
            b.append(i > 0 ? "," : "").append(e(want.gives, depth - 1));
        }
        return b.append("]").toString();
    }

    private String call(Oracle.Kind want, int depth) {
        List<Integer> fit = new ArrayList<>();
        for (int k = 0; k < partKinds.size(); k++) {
            if (partKinds.get(k).gives.fits(want) && (k > inPart || chance(4))) {
                fit.add(k);
            }
        }
        if (fit.isEmpty()) {
            return simple(want);
        }
        int k = fit.get(below(fit.size()));
        String name = chance(85) ? partNames.get(k) : "(" + partNames.get(k) + ")";
        String call = name + values(partKinds.get(k).takes, depth);
        return partKinds.get(k).gives.form == 'a' && chance(20) ? call + behindAny(depth) : call;
    }

    /** What of no told kind may be called, or have places. */
    private String behindAny(int depth) {
        switch (below(3)) {
            case 0:
                return "[0]";
            case 1:
                return "()";
            default:
                return "(" + e(kind(1), depth - 1) + ")";
        }
    }

    private String values(List<Oracle.Kind> takes, int depth) {
        StringBuilder b = new StringBuilder("(");
        for (int i = 0; i < takes.size(); i++) {
            b.append(i > 0 ? "," : "").append(e(takes.get(i), depth - 1));
        }
        return b.append(chance(1) ? ",1)" : ")").toString();
    }

    /** Calls something that is a function, or any. */
    private String anyCall(Oracle.Kind want, int depth) {
        List<Integer> fit = new ArrayList<>();
        for (int i = 0; i < names.size(); i++) {
            boolean callable = kinds.get(i).form == 'f' && kinds.get(i).gives.fits(want) || kinds.get(i).form == 'a';
            if (callable && names.lastIndexOf(names.get(i)) == i) {
                fit.add(i);
            }
        }
        if (fit.isEmpty()) {
            List<Oracle.Kind> takes = new ArrayList<>();
            for (int i = below(3); i > 0; i--) {
                takes.add(kind(1));
            }
            return "(" + e(new Oracle.Kind('f', takes, want), depth - 1) + ")" + values(takes, depth);
        }
        int i = fit.get(below(fit.size()));
        List<Oracle.Kind> takes = kinds.get(i).takes;
        if (kinds.get(i).form == 'a') {
            takes = new ArrayList<>();
            for (int j = below(3); j > 0; j--) {
                takes.add(kind(1));
            }
        }
        return names.get(i) + values(takes, depth);
    }

    private String simple(Oracle.Kind want) {
        List<String> fit = new ArrayList<>();
        for (int i = 0; i < names.size(); i++) {
            if (kinds.get(i).fits(want) && names.lastIndexOf(names.get(i)) == i) {
                fit.add(names.get(i));
            }
        }
        if (!fit.isEmpty() && chance(65)) {
            return fit.get(below(fit.size()));
        }
        switch (want.form) {
            case 'i':
                return String.valueOf(chance(90) ? below(5) : Integer.MAX_VALUE - below(2));
            case 'b':
                return chance(50) ? "true" : "false";
            case 'a':
                return simple(kind(2));
            case '[':
                return chance(50) ? "[" + simple(want.gives) + "]" : "new(2," + simple(want.gives) + ")";
            default:
                for (int k = 0; k < partKinds.size(); k++) {
                    if (partKinds.get(k).fits(want) && (k > inPart || chance(4))) {
                        fit.add(partNames.get(k));
                    }
                }
                if (fit.isEmpty() && partKinds.size() < 12) {
                    partNames.add("p" + (char) ('a' + partKinds.size()));
                    partKinds.add(alike(want));
                    fit.add(partNames.get(partNames.size() - 1));
                }
                return fit.isEmpty() ? "main" : fit.get(below(fit.size()));
        }
    }

    /** A kind that fits, with any here and there. */
    private Oracle.Kind alike(Oracle.Kind kind) {
        if (chance(25)) {
            return kind.form == 'f' ? Oracle.anyFunction(kind.takes.size()) : Oracle.ANY;
        }
        if (kind.form == '[') {
            return Oracle.row(alike(kind.gives));
        }
        if (kind.form != 'f') {
            return kind;
        }
        List<Oracle.Kind> takes = new ArrayList<>();
        for (Oracle.Kind k : kind.takes) {
            takes.add(alike(k));
        }
        return new Oracle.Kind('f', takes, alike(kind.gives));
    }

    /** A text of just 3,000 bytes, with as much in it as there can be. */
    String dense() {
        String[] items = {"-".repeat(38) + "1", "!".repeat(38) + "true", "1" + "+1".repeat(40), "1" + "*1".repeat(40),
            "[" + "1,".repeat(19) + "1]", "[" + "1,".repeat(19) + "m]", "m" + "()".repeat(40), "[".repeat(38) + "]".repeat(38),
            "{" + "1;".repeat(30) + "1}", "m", "1", "m[0]:=1", "let a=m in a", "if m then 1 else m", "(1)", "new(1,m)", "size(m)"};
        String dear = items[below(items.length)];
        StringBuilder b = new StringBuilder("part main()=let m:any=1 in{1");
        while (b.length() < 2996) {
            String item = chance(70) ? dear : items[below(items.length)];
            b.append(b.length() + item.length() < 2996 ? ";" + item : " ");
        }
        return b.append("};").append(" ".repeat(3000 - 2 - 2996)).substring(0, 3000);
    }

    private int near(int bound) {
        return bound - 1 + below(3);
    }

    private String oneOf(String... some) {
        return some[below(some.length)];
    }

    /** So many of these, each chosen anew, with something between. */
    private String some(int many, String between, String... of) {
        StringBuilder b = new StringBuilder();
        for (int i = 0; i < many; i++) {
            b.append(i > 0 ? between : "").append(oneOf(of));
        }
        return b.toString();
    }

    private static final String[][] OPENERS = {{"(", ")"}, {"[", "]"}, {"{", "}"}, {"f(", ")"}, {"f[", "]"}, {"f[0]:=", ""},
        {"size(", ")"}, {"print(", ")"}, {"new(", ",1)"}, {"new(1,", ")"}, {"-", ""}, {"!", ""}, {"let a=", " in 1"},
        {"let a=1 in ", ""}, {"if ", " then 1 else 1"}, {"if 1 then ", " else 1"}, {"if 1 then 1 else ", ""},
        {"{(1);", "}"}, {"[-1,", "]"}, {"(1)+f(", ")"}};
    /** Those of them that may stand behind - and !. */
    private static final int PLAIN_OPENERS = 12;
    private static final String[][] KIND_OPENERS = {{"[", "]"}, {"fn()", ""}, {"fn(", ")int"}, {"fn(int,", ")[int]"}};

    private String opened(String inmost, int many) {
        String before = "";
        String behind = "";
        boolean plain = false;
        for (int i = 0; i < many; i++) {
            String[] o = OPENERS[below(plain ? PLAIN_OPENERS : OPENERS.length)];
            plain = o[0].equals("-") || o[0].equals("!");
            before += o[0];
            behind = o[1] + behind;
        }
        return before + inmost + behind;
    }

    private String openedKind() {
        String before = "";
        String behind = "";
        int many = 0;
        int most = near(39) + below(2);
        while (many < most) {
            String[] o = KIND_OPENERS[below(most - many > 1 ? 4 : 1)];
            many += o[0].equals("[") || o[0].equals("fn()") ? 1 : 2;
            before += o[0];
            behind = o[1] + behind;
        }
        return before + oneOf("int", "any", "fn()int", "[int]") + behind;
    }

    /** A text that has as many of something as it may have, or one less, or one more. */
    String crowded() {
        String f = "part f(a,b,c,d)=a;";
        String main = "part main()=";
        String[] es = {"1", "f", "true", "-1", "(1)", "[1]", "[]", "f(1,2,3,4)", "let a=1 in a", "2147483647"};
        switch (below(10)) {
            case 0: {
                StringBuilder b = new StringBuilder();
                int many = near(40);
                int twice = below(120);
                for (int k = 0; k < many; k++) {
                    int name = k == twice ? k / 2 : k;
                    b.append("part ").append(name == 5 ? "main" : "p" + (char) ('a' + name % 20) + (char) ('a' + name / 20));
                    b.append("()=").append(chance(97) ? "1;" : "paa;").append(chance(20) ? " " : "");
                }
                return b.toString();
            }
            case 1:
                return "part f(" + some(near(4), ",", "a", "b:int", "c", "d:[fn(int)any]", "e", "g", "h", "i", "j") + ")=1;part main()=1;";
            case 2:
                return f + "part g(a:fn(" + some(near(4), ",", "int", "[any]", "fn()int") + ")int)=1;part main()=1;";
            case 3:
                return f + main + opened("f(" + some(near(4), ",", es) + oneOf(")", ",2147483648)", ",)"), below(3)) + ";";
            case 4:
                return f + main + opened("[" + some(near(20), ",", es) + oneOf("]", "]", ",#]"), below(3)) + ";";
            case 5:
                return f + main + opened("1" + some(near(40), "", "+1", "-1", "+1*2", "- -1"), 1) + ";";
            case 6:
                return f + main + opened("1" + some(near(40), "", "*1", "/1", "%1", "*-1") + oneOf("", "+1*1", "<1"), 1) + ";";
            case 7:
                return f + main + opened("f" + some(near(40), "", "()", "[0]", "(1)", "[f]") + oneOf("", ":=1", "+1"), below(2)) + ";";
            case 8:
                return f + "part g(" + (chance(50) ? "a:" + openedKind() + ")=1;" : "):" + openedKind() + "=1;") + main + "1;";
            default:
                return f + main + opened(oneOf("1", "f", "f(1)", "f[1]", "let a:[int]=1 in 1"), near(40)) + ";";
        }
    }

    private static final String[] FILLERS = {"[]", "[n]", "[n,n,n,n]", "new(40,n)", "new(1000,n)", "new(0,n)", "print(n)",
        "let a:any=[n] in 0", "let a:any=q in 0", "let a:[any]=[n] in a[0]", "w(2,[n])", "v(2,q)", "let a:[any]=[n] in a[0]:=n"};

    /** A program that makes as much as it may, or a little less, or more. */
    String filling() {
        String around = "part q(x:int):int=x;part w(n:int,r:any):any=if n=0 then r else let s:[int]=r in w(n-1,s);"
            + "part v(n:int,r:any):any=if n=0 then r else let s:fn(any)int=r in v(n-1,s);";
        String one = oneOf(FILLERS);
        String loop = "part p(n:int):int=if n=0 then 0 else {" + one + ";" + (chance(30) ? oneOf(FILLERS) + ";" : "") + "p(n-1)};";
        StringBuilder main = new StringBuilder("part main()={");
        for (int i = below(12); i > 0; i--) {
            main.append(oneOf("p(10);", "p(90);", "p(98);", "p(99);", "p(20);", "p(5);"));
        }
        for (int i = below(6); i > 0; i--) {
            main.append(oneOf("let n=1 in " + oneOf(FILLERS) + ";", "w(" + near(10) + ",[1]);", "v(" + near(10) + ",q);",
                "let s:[int]=w(9,[1]) in " + oneOf("s[0]", "s[0]:=2", "s", "let t:any=s in 1", "s[1]") + ";",
                "let s:fn(int)int=v(9,q) in " + oneOf("s(1)", "[s,1]", "let t:any=s in 1") + ";"));
        }
        return around + loop + main + oneOf("0", "w(9,[1])", "v(9,q)") + "};";
    }

    private static final String[] BITS = {"(", ")", "[", "]", "{", "}", ",", ";", ":", "=", "<", "+", "-", "*", "/", "%",
        "!", ":=", " ", "\n", "part ", "let ", " in ", "if ", " then ", " else ", "true", "false", "new", "size",
        "print", "int", "flag", "any", "fn", "x", "a", "main", "1", "2147483647", "2147483648", "0000000000000000007",
        "abcdefgh", "abcdefghi", "#", "\t", "\u00e9", "_"};

    /** The same text with a few bits taken out, put in, or doubled. */
    String spoil(String text) {
        StringBuilder b = new StringBuilder(text);
        for (int i = 1 + below(2); i > 0 && b.length() > 0; i--) {
            int at = below(b.length());
            switch (below(4)) {
                case 0:
                    b.deleteCharAt(at);
                    break;
                case 1:
                    b.insert(at, BITS[below(BITS.length)]);
                    break;
                case 2:
                    b.replace(at, at + 1, BITS[below(BITS.length)]);
                    break;
                default:
                    b.setLength(chance(20) ? at : b.length());
                    b.insert(at, b.substring(at, Math.min(b.length(), at + 1 + below(12))));
                    break;
            }
        }
        return b.toString();
    }
}
