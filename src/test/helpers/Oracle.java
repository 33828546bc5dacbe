import java.util.ArrayList;
import java.util.HashMap;
import java.util.HashSet;
import java.util.List;
import java.util.Map;
import java.util.Set;

/**
 * The document once more, in its plainest form: a tree of nodes, kinds as texts, values as Java objects, recursion
 * wherever the document says "within". It shares nothing with the program, so the two can be held against each other.
 */
final class Oracle {
    static final int NONE = -1;

    /** Ends reading or judging. */
    static final class Fault extends RuntimeException {
        private static final long serialVersionUID = 1L;
        final int what;
        final int place;

        Fault(int what, int place) {
            super(null, null, false, false);
            this.what = what;
            this.place = place;
        }
    }

    /** Ends a run. */
    static final class Fail extends RuntimeException {
        private static final long serialVersionUID = 1L;
        final int what;
        final int place;
        final int party;

        Fail(int what, int place, int party) {
            super(null, null, false, false);
            this.what = what;
            this.place = place;
            this.party = party;
        }
    }

    static final class Kind {
        final char form;
        final List<Kind> takes;
        final Kind gives;

        Kind(char form, List<Kind> takes, Kind gives) {
            this.form = form;
            this.takes = takes;
            this.gives = gives;
        }

        @Override
        public String toString() {
            switch (form) {
                case '[':
                    return "[" + gives + "]";
                case 'f':
                    return "fn" + takes + gives;
                default:
                    return String.valueOf(form);
            }
        }

        boolean like(Kind other) {
            return toString().equals(other.toString());
        }

        boolean fits(Kind other) {
            if (like(other) || form == 'a' || other.form == 'a') {
                return true;
            }
            if (form != other.form || takes.size() != other.takes.size() || gives == null) {
                return false;
            }
            for (int i = 0; i < takes.size(); i++) {
                if (!takes.get(i).fits(other.takes.get(i))) {
                    return false;
                }
            }
            return gives.fits(other.gives);
        }

        boolean hasAny() {
            return toString().indexOf('a') >= 0;
        }

        int code() {
            switch (form) {
                case 'i':
                    return 1;
                case 'b':
                    return 2;
                case 'a':
                    return 3;
                case '[':
                    return 5 * gives.code() + 4;
                default:
                    int code = 7 + takes.size();
                    for (Kind k : takes) {
                        code = 31 * code + k.code();
                    }
                    return 31 * code + gives.code();
            }
        }
    }

    static final Kind INT = new Kind('i', List.of(), null);
    static final Kind FLAG = new Kind('b', List.of(), null);
    static final Kind ANY = new Kind('a', List.of(), null);

    static Kind row(Kind of) {
        return new Kind('[', List.of(), of);
    }

    static Kind anyFunction(int n) {
        List<Kind> takes = new ArrayList<>();
        for (int i = 0; i < n; i++) {
            takes.add(ANY);
        }
        return new Kind('f', takes, ANY);
    }

    static final class Guard {
        int place;
        int giver;
        int taker;
        Kind from;
        Kind to;
    }

    static final class Node {
        final String what;
        final int place;
        int sign;
        final List<Node> kids = new ArrayList<>();
        String name;
        int number;
        Kind kind;
        /** Of a name: the let or param it means, or null: a part. */
        Object means;
        Guard guard;

        Node(String what, int place) {
            this.what = what;
            this.place = place;
        }
    }

    static final class Part {
        String name;
        int namePlace;
        int place;
        final List<String> params = new ArrayList<>();
        final List<Kind> paramKinds = new ArrayList<>();
        final List<Object> paramIds = new ArrayList<>();
        Kind own = ANY;
        Node body;
        boolean told = true;
        boolean any;
    }

    static final class Token {
        final String text;
        final int place;

        Token(String text, int place) {
            this.text = text;
            this.place = place;
        }

        boolean isName() {
            return Character.isLetter(text.charAt(0)) && !KEYWORDS.contains(text);
        }

        boolean isNumber() {
            return Character.isDigit(text.charAt(0));
        }
    }

    static final Set<String> KEYWORDS = Set.of("part", "let", "in", "if", "then", "else", "true", "false", "new",
        "size", "print", "int", "flag", "any", "fn");

    /** A text that has been read. */
    final List<Part> parts = new ArrayList<>();
    final List<Guard> guards = new ArrayList<>();

    private final List<Token> tokens = new ArrayList<>();
    private int at = 0;
    private int open = 0;
    private final List<String> scopeNames = new ArrayList<>();
    private final List<Object> scopeIds = new ArrayList<>();
    /** Names of parts as they are met, in the order of the text: {name, place, "part" or "use"}. */
    private final List<Object[]> met = new ArrayList<>();

    Oracle(String text) {
        lex(text);
        while (!is("$end")) {
            part();
        }
        Set<String> names = new HashSet<>();
        for (Part p : parts) {
            names.add(p.name);
        }
        Set<String> seen = new HashSet<>();
        for (Object[] m : met) {
            if (m[2].equals("part") && !seen.add((String) m[0])) {
                throw new Fault(5, (Integer) m[1]);
            }
            if (m[2].equals("use") && !names.contains(m[0])) {
                throw new Fault(6, (Integer) m[1]);
            }
        }
        int main = indexOf("main");
        if (main == NONE || !parts.get(main).params.isEmpty()) {
            throw new Fault(7, text.length());
        }
    }

    int indexOf(String name) {
        for (int i = 0; i < parts.size(); i++) {
            if (parts.get(i).name.equals(name)) {
                return i;
            }
        }
        return NONE;
    }

    private static boolean letter(char c) {
        return c >= 'a' && c <= 'z' || c >= 'A' && c <= 'Z';
    }

    private void lex(String text) {
        int i = 0;
        while (i < text.length()) {
            char c = text.charAt(i);
            int from = i;
            i++;
            if (c == ' ' || c == '\n') {
                continue;
            }
            if (letter(c)) {
                while (i < text.length() && letter(text.charAt(i))) {
                    i++;
                }
                tokens.add(new Token(i - from > 8 ? "$bad" : text.substring(from, i), from));
            } else if (c >= '0' && c <= '9') {
                while (i < text.length() && text.charAt(i) >= '0' && text.charAt(i) <= '9') {
                    i++;
                }
                tokens.add(new Token(text.substring(from, i), from));
            } else if (c == ':' && i < text.length() && text.charAt(i) == '=') {
                i++;
                tokens.add(new Token(":=", from));
            } else {
                tokens.add(new Token("()[]{},;:=<+-*/%!".indexOf(c) >= 0 ? String.valueOf(c) : "$bad", from));
            }
        }
        tokens.add(new Token("$end", text.length()));
    }

    private Token now() {
        return tokens.get(at);
    }

    private boolean is(String... texts) {
        for (String t : texts) {
            if (now().text.equals(t)) {
                return true;
            }
        }
        return false;
    }

    private Fault here(int what) {
        return new Fault(what, now().place);
    }

    private int take(String text) {
        if (!is(text)) {
            throw here(1);
        }
        return tokens.get(at++).place;
    }

    private int open(String text) {
        if (!is(text)) {
            throw here(1);
        }
        if (open == 40) {
            throw here(3);
        }
        open++;
        return take(text);
    }

    private void close(String text) {
        take(text);
        open--;
    }

    private String name() {
        if (!now().isName()) {
            throw here(1);
        }
        return tokens.get(at++).text;
    }

    private void part() {
        Part p = new Part();
        if (is("part") && parts.size() == 40) {
            throw here(3);
        }
        p.place = take("part");
        p.namePlace = now().place;
        p.name = name();
        met.add(new Object[] {p.name, p.namePlace, "part"});
        open("(");
        scopeNames.clear();
        scopeIds.clear();
        if (!is(")")) {
            param(p);
            while (is(",")) {
                take(",");
                param(p);
            }
        }
        close(")");
        if (is(":")) {
            take(":");
            p.own = kind();
        }
        take("=");
        p.body = e();
        take(";");
        parts.add(p);
    }

    private void param(Part p) {
        if (now().isName() && p.params.contains(now().text)) {
            throw here(2);
        }
        if (now().isName() && p.params.size() == 4) {
            throw here(3);
        }
        String n = name();
        Object id = new Object();
        p.params.add(n);
        p.paramIds.add(id);
        scopeNames.add(n);
        scopeIds.add(id);
        if (is(":")) {
            take(":");
            p.paramKinds.add(kind());
        } else {
            p.paramKinds.add(ANY);
        }
    }

    private Kind kind() {
        if (is("int", "flag", "any")) {
            String t = tokens.get(at++).text;
            return t.equals("int") ? INT : t.equals("flag") ? FLAG : ANY;
        }
        if (is("[")) {
            open("[");
            Kind of = kind();
            close("]");
            return row(of);
        }
        open("fn");
        open("(");
        List<Kind> takes = new ArrayList<>();
        if (!is(")")) {
            takes.add(kind());
            while (is(",")) {
                take(",");
                if (takes.size() == 4 && is("int", "flag", "any", "[", "fn")) {
                    throw here(3);
                }
                takes.add(kind());
            }
        }
        close(")");
        Kind gives = kind();
        open--;
        return new Kind('f', takes, gives);
    }

    private Node e() {
        if (is("let")) {
            Node n = new Node("let", open("let"));
            n.name = name();
            n.means = new Object();
            if (is(":")) {
                take(":");
                n.kind = kind();
            }
            take("=");
            n.kids.add(e());
            take("in");
            scopeNames.add(n.name);
            scopeIds.add(n.means);
            n.kids.add(e());
            scopeNames.remove(scopeNames.size() - 1);
            scopeIds.remove(scopeIds.size() - 1);
            open--;
            return n;
        }
        if (is("if")) {
            Node n = new Node("if", open("if"));
            n.kids.add(e());
            take("then");
            n.kids.add(e());
            take("else");
            n.kids.add(e());
            open--;
            return n;
        }
        return c();
    }

    private Node c() {
        Node left = s();
        if (is("<", "=")) {
            left = binary(left);
            left.kids.add(s());
        }
        return left;
    }

    private Node binary(Node left) {
        Node n = new Node(now().text, left.place);
        n.sign = now().place;
        at++;
        n.kids.add(left);
        return n;
    }

    private Node s() {
        Node left = t();
        int signs = 0;
        while (is("+", "-")) {
            if (++signs == 41) {
                throw here(3);
            }
            left = binary(left);
            left.kids.add(t());
        }
        return left;
    }

    private Node t() {
        Node left = u();
        int signs = 0;
        while (is("*", "/", "%")) {
            if (++signs == 41) {
                throw here(3);
            }
            left = binary(left);
            left.kids.add(u());
        }
        return left;
    }

    private Node u() {
        if (is("-", "!")) {
            String sign = now().text;
            Node n = new Node("u" + sign, open(sign));
            n.kids.add(u());
            open--;
            return n;
        }
        return q();
    }

    private Node q() {
        Node left = b();
        int signs = 0;
        while (is("(", "[")) {
            if (++signs == 41) {
                throw here(3);
            }
            if (is("(")) {
                Node n = new Node("call", left.place);
                n.sign = open("(");
                n.kids.add(left);
                list(n, ")", 4);
                close(")");
                left = n;
                continue;
            }
            Node n = new Node("place", left.place);
            n.sign = open("[");
            n.kids.add(left);
            n.kids.add(e());
            close("]");
            left = n;
            if (is(":=")) {
                Node store = new Node("store", n.place);
                store.sign = n.sign;
                store.kids.addAll(n.kids);
                open(":=");
                store.kids.add(e());
                open--;
                return store;
            }
        }
        return left;
    }

    private boolean beginsE() {
        return now().isName() || now().isNumber()
            || is("let", "if", "-", "!", "true", "false", "[", "new", "size", "print", "(", "{");
    }

    private void list(Node n, String closing, int most) {
        if (is(closing)) {
            return;
        }
        n.kids.add(e());
        int many = 1;
        while (is(",")) {
            take(",");
            if (++many > most && beginsE()) {
                throw here(3);
            }
            n.kids.add(e());
        }
    }

    private Node b() {
        Token t = now();
        if (t.isNumber()) {
            String digits = t.text.replaceFirst("^0+", "");
            if (digits.length() > 10 || digits.length() > 0 && Long.parseLong(digits) > Integer.MAX_VALUE) {
                throw here(4);
            }
            at++;
            Node n = new Node("number", t.place);
            n.number = digits.isEmpty() ? 0 : Integer.parseInt(digits);
            return n;
        }
        if (is("true", "false")) {
            at++;
            Node n = new Node("truth", t.place);
            n.number = t.text.equals("true") ? 1 : 0;
            return n;
        }
        if (t.isName()) {
            at++;
            Node n = new Node("name", t.place);
            n.name = t.text;
            int i = scopeNames.lastIndexOf(t.text);
            if (i >= 0) {
                n.means = scopeIds.get(i);
            } else {
                met.add(new Object[] {t.text, t.place, "use"});
            }
            return n;
        }
        if (is("[")) {
            Node n = new Node("row", open("["));
            list(n, "]", 20);
            close("]");
            return n;
        }
        if (is("new", "size", "print")) {
            at++;
            Node n = new Node(t.text, t.place);
            open("(");
            n.kids.add(e());
            if (t.text.equals("new")) {
                take(",");
                n.kids.add(e());
            }
            close(")");
            return n;
        }
        if (is("(")) {
            Node n = new Node("paren", open("("));
            n.kids.add(e());
            close(")");
            return n;
        }
        Node n = new Node("block", open("{"));
        n.kids.add(e());
        while (is(";")) {
            take(";");
            n.kids.add(e());
        }
        close("}");
        return n;
    }

    // ---- judging

    private int inPart;
    private final Map<Object, Kind> kindOf = new HashMap<>();

    void judge() {
        guards.clear();
        for (Part p : parts) {
            p.any = false;
        }
        for (int k = 0; k < parts.size(); k++) {
            Part p = parts.get(k);
            inPart = k;
            p.any = partKind(p).hasAny();
            for (int i = 0; i < p.params.size(); i++) {
                kindOf.put(p.paramIds.get(i), partKind(p).takes.get(i));
            }
            clearGuards(p.body);
            fit(p.body, judge(p.body), partKind(p).gives, k);
        }
    }

    private void clearGuards(Node n) {
        n.guard = null;
        for (Node kid : n.kids) {
            clearGuards(kid);
        }
    }

    private Kind asTold(Part p, Kind kind) {
        return p.told ? kind : ANY;
    }

    private Kind partKind(Part p) {
        List<Kind> takes = new ArrayList<>();
        for (Kind k : p.paramKinds) {
            takes.add(asTold(p, k));
        }
        return new Kind('f', takes, asTold(p, p.own));
    }

    private void fit(Node n, Kind has, Kind must, int taker) {
        if (!has.fits(must)) {
            throw new Fault(9, n.place);
        }
        if (!has.like(must)) {
            lay(n, n.place, has, must, taker);
        }
    }

    private void lay(Node n, int place, Kind from, Kind to, int taker) {
        Guard g = new Guard();
        g.place = place;
        g.giver = inPart;
        g.taker = taker;
        g.from = from;
        g.to = to;
        n.guard = g;
        guards.add(g);
    }

    private Kind judge(Node n) {
        Kind kind = judgeOne(n);
        if (kind.hasAny()) {
            parts.get(inPart).any = true;
        }
        return kind;
    }

    private void judgeFit(Node n, Kind must) {
        fit(n, judge(n), must, inPart);
    }

    private Kind judgeRow(Node n, int place) {
        Kind kind = judge(n);
        if (kind.form == 'a') {
            lay(n, place, kind, row(ANY), inPart);
            return row(ANY);
        }
        if (kind.form != '[') {
            throw new Fault(9, place);
        }
        return kind;
    }

    private Kind judgeMixed(List<Node> nodes) {
        List<Kind> kinds = new ArrayList<>();
        boolean alike = true;
        for (Node n : nodes) {
            kinds.add(judge(n));
            alike = alike && kinds.get(0).like(kinds.get(kinds.size() - 1));
        }
        if (alike && !kinds.isEmpty()) {
            return kinds.get(0);
        }
        for (int i = 0; i < nodes.size(); i++) {
            if (kinds.get(i).form != 'a') {
                lay(nodes.get(i), nodes.get(i).place, kinds.get(i), ANY, inPart);
            }
        }
        return ANY;
    }

    private Kind judgeOne(Node n) {
        List<Node> kids = n.kids;
        switch (n.what) {
            case "number":
                return INT;
            case "truth":
                return FLAG;
            case "name":
                return n.means != null ? kindOf.get(n.means) : partKind(parts.get(indexOf(n.name)));
            case "let": {
                Kind kind = judge(kids.get(0));
                if (n.kind != null) {
                    Kind must = asTold(parts.get(inPart), n.kind);
                    fit(kids.get(0), kind, must, inPart);
                    kind = must;
                }
                if (kind.hasAny()) {
                    parts.get(inPart).any = true;
                }
                kindOf.put(n.means, kind);
                return judge(kids.get(1));
            }
            case "if":
                judgeFit(kids.get(0), FLAG);
                return judgeMixed(kids.subList(1, 3));
            case "row":
                return row(judgeMixed(kids));
            case "new":
                judgeFit(kids.get(0), INT);
                return row(judge(kids.get(1)));
            case "size":
                judgeRow(kids.get(0), kids.get(0).place);
                return INT;
            case "u!":
                judgeFit(kids.get(0), FLAG);
                return FLAG;
            case "paren":
                return judge(kids.get(0));
            case "block": {
                Kind last = ANY;
                for (Node kid : kids) {
                    last = judge(kid);
                }
                return last;
            }
            case "place":
            case "store": {
                Kind has = judgeRow(kids.get(0), n.sign).gives;
                judgeFit(kids.get(1), INT);
                if (n.what.equals("store")) {
                    judgeFit(kids.get(2), has);
                }
                return has;
            }
            case "call":
                return judgeCall(n);
            default:
                for (Node kid : kids) {
                    judgeFit(kid, INT);
                }
                return n.what.equals("<") || n.what.equals("=") ? FLAG : INT;
        }
    }

    private Kind judgeCall(Node n) {
        Node called = n.kids.get(0);
        int many = n.kids.size() - 1;
        Kind kind = judge(called);
        if (kind.form == 'a') {
            lay(called, n.sign, kind, anyFunction(many), inPart);
            kind = anyFunction(many);
        }
        if (kind.form != 'f') {
            throw new Fault(9, n.sign);
        }
        if (kind.takes.size() != many) {
            throw new Fault(8, n.sign);
        }
        int taker = called.what.equals("name") && called.means == null ? indexOf(called.name) : inPart;
        for (int i = 0; i < many; i++) {
            fit(n.kids.get(i + 1), judge(n.kids.get(i + 1)), kind.takes.get(i), taker);
        }
        return kind.gives;
    }

    // ---- running

    static final class Row {
        final Object[] cells;

        Row(int n) {
            cells = new Object[n];
        }
    }

    static final class Fun {
        final int part;

        Fun(int part) {
            this.part = part;
        }
    }

    static final class Wrap {
        Object within;
        Kind from;
        Kind to;
        int giver;
        int taker;
        int place;
    }

    /** What a run tells. */
    static final class Told {
        int end = 0;
        int place = NONE;
        int party = NONE;
        int steps = 0;
        int sort = NONE;
        int content = NONE;
        int around = NONE;
        final List<Integer> out = new ArrayList<>();
        int wraps = 0;
        int rows = 0;
        final Map<Integer, Integer> asked = new HashMap<>();
    }

    private Told told;
    private boolean guarded;
    private int fuel;
    private int deep;
    private int places;

    Told run(boolean withGuards, int withFuel) {
        told = new Told();
        guarded = withGuards;
        fuel = withFuel;
        deep = 0;
        places = 0;
        try {
            Object v = callPart(indexOf("main"), new ArrayList<>(), 0);
            told.around = around(v);
            Object core = core(v);
            if (core instanceof Integer) {
                told.sort = 0;
                told.content = (Integer) core;
            } else if (core instanceof Boolean) {
                told.sort = 1;
                told.content = (Boolean) core ? 1 : 0;
            } else if (core instanceof Row) {
                told.sort = 3;
                told.content = ((Row) core).cells.length;
            } else {
                told.sort = 4;
                told.content = ((Fun) core).part;
            }
        } catch (Fail f) {
            told.end = f.what;
            told.place = f.place;
            told.party = f.party;
        }
        return told;
    }

    private static int around(Object v) {
        return v instanceof Wrap ? 1 + around(((Wrap) v).within) : 0;
    }

    private static Object core(Object v) {
        return v instanceof Wrap ? core(((Wrap) v).within) : v;
    }

    private static Fail fail(int what, int place) {
        return new Fail(what, place, NONE);
    }

    private Object callPart(int k, List<Object> values, int place) {
        if (deep == 100) {
            throw fail(5, place);
        }
        deep++;
        Map<Object, Object> scope = new HashMap<>();
        Part p = parts.get(k);
        for (int i = 0; i < values.size(); i++) {
            scope.put(p.paramIds.get(i), values.get(i));
        }
        Object v = eval(p.body, scope, "");
        deep--;
        return v;
    }

    /** What is made is asked: its guard, or in an untold run whether it is what it must be ("" for nothing). */
    private Object eval(Node n, Map<Object, Object> scope, String must) {
        return eval(n, scope, must, n.place);
    }

    private Object eval(Node n, Map<Object, Object> scope, String must, int place) {
        if (told.steps == fuel) {
            throw fail(7, n.place);
        }
        told.steps++;
        Object v = make(n, scope);
        if (guarded) {
            Guard g = n.guard;
            return g == null ? v : ask(v, g.from, g.to, g.giver, g.taker, g.place);
        }
        boolean right;
        if (must.isEmpty()) {
            right = true;
        } else if (must.equals("int")) {
            right = v instanceof Integer;
        } else if (must.equals("flag")) {
            right = v instanceof Boolean;
        } else if (must.equals("row")) {
            right = v instanceof Row;
        } else {
            right = v instanceof Fun && parts.get(((Fun) v).part).params.size() == Integer.parseInt(must);
        }
        if (!right) {
            throw fail(4, place);
        }
        return v;
    }

    private Object make(Node n, Map<Object, Object> scope) {
        List<Node> kids = n.kids;
        switch (n.what) {
            case "number":
                return n.number;
            case "truth":
                return n.number == 1;
            case "name":
                return n.means != null ? scope.get(n.means) : new Fun(indexOf(n.name));
            case "let":
                scope.put(n.means, eval(kids.get(0), scope, ""));
                return eval(kids.get(1), scope, "");
            case "if":
                return eval(kids.get((Boolean) eval(kids.get(0), scope, "flag") ? 1 : 2), scope, "");
            case "row": {
                List<Object> values = new ArrayList<>();
                for (Node kid : kids) {
                    values.add(eval(kid, scope, ""));
                }
                Row r = newRow(values.size(), n.place);
                for (int i = 0; i < values.size(); i++) {
                    r.cells[i] = values.get(i);
                }
                return r;
            }
            case "new": {
                int many = (Integer) eval(kids.get(0), scope, "int");
                Object v = eval(kids.get(1), scope, "");
                if (many < 0 || many > 1000) {
                    throw fail(1, n.place);
                }
                Row r = newRow(many, n.place);
                for (int i = 0; i < many; i++) {
                    r.cells[i] = v;
                }
                return r;
            }
            case "size":
                return ((Row) core(eval(kids.get(0), scope, "row"))).cells.length;
            case "print": {
                int v = (Integer) eval(kids.get(0), scope, "int");
                if (told.out.size() == 200) {
                    throw fail(6, n.place);
                }
                told.out.add(v);
                return v;
            }
            case "paren":
                return eval(kids.get(0), scope, "");
            case "block": {
                Object last = null;
                for (Node kid : kids) {
                    last = eval(kid, scope, "");
                }
                return last;
            }
            case "u!":
                return !(Boolean) eval(kids.get(0), scope, "flag");
            case "u-":
                return -(Integer) eval(kids.get(0), scope, "int");
            case "place": {
                Object r = eval(kids.get(0), scope, "row", n.sign);
                int i = (Integer) eval(kids.get(1), scope, "int");
                checkPlace(r, i, n.sign);
                return readAt(r, i);
            }
            case "store": {
                Object r = eval(kids.get(0), scope, "row", n.sign);
                int i = (Integer) eval(kids.get(1), scope, "int");
                Object v = eval(kids.get(2), scope, "");
                checkPlace(r, i, n.sign);
                writeAt(r, i, v);
                return v;
            }
            case "call": {
                Object f = eval(kids.get(0), scope, String.valueOf(kids.size() - 1), n.sign);
                List<Object> values = new ArrayList<>();
                for (int i = 1; i < kids.size(); i++) {
                    values.add(eval(kids.get(i), scope, ""));
                }
                return call(f, values, n.sign);
            }
            default:
                return work(n, (Integer) eval(kids.get(0), scope, "int"), (Integer) eval(kids.get(1), scope, "int"));
        }
    }

    private Object work(Node n, int a, int b) {
        switch (n.what) {
            case "+":
                return a + b;
            case "-":
                return a - b;
            case "*":
                return a * b;
            case "<":
                return a < b;
            case "=":
                return a == b;
            default:
                if (b == 0) {
                    throw fail(2, n.sign);
                }
                return n.what.equals("/") ? a / b : a % b;
        }
    }

    private Row newRow(int n, int place) {
        if (places + n > 4000 || told.rows + told.wraps + 1 > 1000) {
            throw fail(6, place);
        }
        places += n;
        told.rows++;
        return new Row(n);
    }

    private void checkPlace(Object r, int i, int place) {
        if (i < 0 || i >= ((Row) core(r)).cells.length) {
            throw fail(1, place);
        }
    }

    private Object readAt(Object r, int i) {
        if (r instanceof Row) {
            return ((Row) r).cells[i];
        }
        Wrap w = (Wrap) r;
        return ask(readAt(w.within, i), w.from.gives, w.to.gives, w.giver, w.taker, w.place);
    }

    private void writeAt(Object r, int i, Object v) {
        if (r instanceof Row) {
            ((Row) r).cells[i] = v;
            return;
        }
        Wrap w = (Wrap) r;
        writeAt(w.within, i, ask(v, w.to.gives, w.from.gives, w.taker, w.giver, w.place));
    }

    private Object call(Object f, List<Object> values, int place) {
        if (f instanceof Fun) {
            return callPart(((Fun) f).part, values, place);
        }
        Wrap w = (Wrap) f;
        List<Object> inner = new ArrayList<>();
        for (int i = 0; i < values.size(); i++) {
            inner.add(ask(values.get(i), w.to.takes.get(i), w.from.takes.get(i), w.taker, w.giver, w.place));
        }
        return ask(call(w.within, inner, place), w.from.gives, w.to.gives, w.giver, w.taker, w.place);
    }

    private static Kind plain(Kind kind) {
        return kind.form == '[' ? row(ANY) : anyFunction(kind.takes.size());
    }

    private Object ask(Object v, Kind a, Kind b, int g, int t, int place) {
        if (a.like(b)) {
            return v;
        }
        told.asked.merge(g * 100 + t, 1, Integer::sum);
        if (b.form == 'a') {
            return a.form == 'i' || a.form == 'b' ? v : ask(v, a, plain(a), g, t, place);
        }
        if (a.form == 'a') {
            Object core = core(v);
            boolean right = b.form == 'i' ? v instanceof Integer
                : b.form == 'b' ? v instanceof Boolean
                : b.form == '[' ? core instanceof Row
                : core instanceof Fun && parts.get(((Fun) core).part).params.size() == b.takes.size();
            if (!right) {
                throw new Fail(3, place, g);
            }
            return b.form == 'i' || b.form == 'b' ? v : ask(v, plain(b), b, g, t, place);
        }
        if (around(v) == 20 || told.rows + told.wraps + 1 > 1000) {
            throw fail(6, place);
        }
        told.wraps++;
        Wrap w = new Wrap();
        w.within = v;
        w.from = a;
        w.to = b;
        w.giver = g;
        w.taker = t;
        w.place = place;
        return w;
    }
}
