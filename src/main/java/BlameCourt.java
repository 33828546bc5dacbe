import java.util.Arrays;

/**
 * A court for programs half of whose parts tell their kinds: texts become code
 * in one pass, judging walks over that code with kinds in place of values, and
 * a run walks over it with values. All rows are made once, in constructors.
 */
public final class BlameCourt {
    public static final int NONE = -1;

    private static final int MAX_TAPE = 3000;
    private static final int MAX_PARTS = 40;
    private static final int MAX_PARAMS = 4;
    private static final int MAX_ITEMS = 20;
    private static final int MAX_SIGNS = 40;
    private static final int MAX_OPEN = 40;
    private static final int MAX_LETTERS = 8;
    private static final int MAX_FUEL = 20000;
    private static final int MAX_CALLS = 100;
    private static final int MAX_OUT = 200;
    private static final int MAX_PLACES = 4000;
    private static final int MAX_THINGS = 1000;
    private static final int MAX_WRAPPINGS = 20;
    private static final int MAX_NEW = 1000;

    /** Params and lets that can be open at once. */
    private static final int MAX_LOCALS = MAX_PARAMS + MAX_OPEN;
    /** No byte of a text makes more than three instructions ("-" makes three); a part's end makes two. */
    private static final int MAX_CODE = 3 * MAX_TAPE + 2 * MAX_PARTS;

    private static final int FAULT_STANDS = 1;
    private static final int FAULT_PARAM_TWICE = 2;
    private static final int FAULT_TOO_MANY = 3;
    private static final int FAULT_NUMBER = 4;
    private static final int FAULT_PART_TWICE = 5;
    private static final int FAULT_UNKNOWN = 6;
    private static final int FAULT_NO_MAIN = 7;
    private static final int FAULT_COUNT = 8;
    private static final int FAULT_FIT = 9;

    private static final int FAIL_PLACE = 1;
    private static final int FAIL_DIVISION = 2;
    private static final int FAIL_BLAME = 3;
    private static final int FAIL_WRONG = 4;
    private static final int FAIL_DEEP = 5;
    private static final int FAIL_FULL = 6;
    private static final int FAIL_SPENT = 7;

    /** The sorts of values; a wrapped one stands for what is within it. */
    private static final int NUMBER = 0;
    private static final int TRUTH = 1;
    private static final int WRAPPED = 2;
    private static final int ROW = 3;
    private static final int FUNCTION = 4;

    private final byte[] tape = new byte[MAX_TAPE];
    private int tapeLength = 0;
    private Program program = new Program();
    /** What is read goes here first, so that a faulty text leaves the former program whole. */
    private Program spare = new Program();
    private boolean hasProgram = false;
    private boolean isJudged = false;
    private boolean hasRun = false;
    private final Reader reader = new Reader();
    private final Guards guards = new Guards();
    private final Judging judging = new Judging();
    private final Running running = new Running();
    private int latestFault = NONE;
    private int latestFaultPlace = NONE;

    public BlameCourt() {
    }

    public int feed(int a, int b, int c, int d, int e) {
        if (tapeLength + 20 > MAX_TAPE) {
            return NONE;
        }
        putFour(a);
        putFour(b);
        putFour(c);
        putFour(d);
        putFour(e);
        return tapeLength;
    }

    private void putFour(int word) {
        for (int shift = 24; shift >= 0; shift -= 8) {
            if (tapeLength < MAX_TAPE) {
                tape[tapeLength] = (byte) (word >> shift);
                tapeLength++;
            }
        }
    }

    public int end(int n) {
        if (n < 0 || n > tapeLength) {
            return NONE;
        }
        tapeLength = n;
        return n;
    }

    public int read() {
        reader.readInto(spare, tape, tapeLength);
        tapeLength = 0;
        latestFault = reader.fault;
        latestFaultPlace = reader.faultPlace;
        if (latestFault != 0) {
            return NONE;
        }
        Program former = program;
        program = spare;
        spare = former;
        hasProgram = true;
        isJudged = false;
        hasRun = false;
        return program.parts;
    }

    public int fault(int what) {
        if (what == 0) {
            return latestFault;
        }
        return what == 1 ? latestFaultPlace : NONE;
    }

    public boolean tell(int part, boolean told) {
        if (!isPart(part)) {
            return false;
        }
        program.isTold[part] = told;
        isJudged = false;
        return true;
    }

    public int judge() {
        isJudged = false;
        latestFault = 0;
        latestFaultPlace = NONE;
        if (!hasProgram) {
            return NONE;
        }
        judging.judgeAll(program, guards);
        latestFault = judging.fault;
        latestFaultPlace = judging.faultPlace;
        isJudged = latestFault == 0;
        return isJudged ? guards.count : NONE;
    }

    public int guard(int i, int what) {
        if (!isJudged || i < 0 || i >= guards.count) {
            return NONE;
        }
        switch (what) {
            case 0:
                return guards.place[i];
            case 1:
                return guards.giver[i];
            case 2:
                return guards.taker[i];
            case 3:
                return program.kinds.codeOf(guards.from[i]);
            case 4:
                return program.kinds.codeOf(guards.to[i]);
            default:
                return NONE;
        }
    }

    public int part(int k, int what) {
        if (!isPart(k)) {
            return NONE;
        }
        switch (what) {
            case 0:
                return program.isTold[k] ? 1 : 0;
            case 1:
                return program.params[k];
            case 2:
                return program.letters[k];
            case 3:
                return isJudged ? (judging.anyStands[k] ? 1 : 0) : NONE;
            case 4:
                return program.partPlace[k];
            default:
                return program.letterOf(k, what - 100);
        }
    }

    public int run(int fuel) {
        if (!isJudged || !isFuel(fuel)) {
            return NONE;
        }
        hasRun = true;
        return running.runAll(program, guards, true, fuel);
    }

    public int runUntold(int fuel) {
        if (!hasProgram || !isFuel(fuel)) {
            return NONE;
        }
        hasRun = true;
        return running.runAll(program, guards, false, fuel);
    }

    public int told(int what) {
        return hasRun ? running.tellOf(what) : NONE;
    }

    public int out(int i) {
        if (!hasRun || i < 0 || i >= running.outs) {
            return 0;
        }
        return running.outNumbers[i];
    }

    public int asked(int giver, int taker) {
        if (!hasRun || !isPart(giver) || !isPart(taker)) {
            return NONE;
        }
        return running.askings[giver * MAX_PARTS + taker];
    }

    public int about(int what) {
        switch (what) {
            case 0:
                return tapeLength;
            case 1:
                return hasProgram ? program.parts : 0;
            case 2:
                return isJudged ? 1 : 0;
            case 3:
                return isJudged ? guards.count : NONE;
            default:
                return NONE;
        }
    }

    private boolean isPart(int k) {
        return hasProgram && k >= 0 && k < program.parts;
    }

    private static boolean isFuel(int fuel) {
        return fuel >= 0 && fuel <= MAX_FUEL;
    }

    /** What a token is: a sign is its own byte, all others stand here. */
    private static final class Token {
        static final int ASSIGN = 256;
        static final int END = 257;
        static final int NAME = 258;
        static final int DIGITS = 259;
        static final int NO_TOKEN = 260;
        static final int PART = 261;
        static final int LET = 262;
        static final int IN = 263;
        static final int IF = 264;
        static final int THEN = 265;
        static final int ELSE = 266;
        static final int TRUE = 267;
        static final int FALSE = 268;
        static final int NEW = 269;
        static final int SIZE = 270;
        static final int PRINT = 271;
        static final int INT = 272;
        static final int FLAG = 273;
        static final int ANY = 274;
        static final int FN = 275;
        /** The letters of PART to FN, in their order, packed as those of names are. */
        static final long[] WORDS = {
            0x70617274L, 0x6c6574L, 0x696eL, 0x6966L, 0x7468656eL, 0x656c7365L, 0x74727565L, 0x66616c7365L,
            0x6e6577L, 0x73697a65L, 0x7072696e74L, 0x696e74L, 0x666c6167L, 0x616e79L, 0x666eL
        };
        static final long MAIN = 0x6d61696eL;
    }

    /** The tape, token by token; a name's letters are packed into a long, eight bits each. */
    private static final class Tokens {
        /** No number is above the one below this; higher ones are taken as this. */
        static final long TOO_HIGH = 2147483648L;
        private byte[] text = new byte[0];
        private int length = 0;
        private int next = 0;
        int type = Token.END;
        int place = 0;
        long letters = 0;
        int letterCount = 0;
        long number = 0;

        void begin(byte[] newText, int newLength) {
            text = newText;
            length = Math.min(newLength, newText.length);
            goTo(0);
        }

        void goTo(int from) {
            next = from;
            type = Token.END;
            advance();
        }

        /** Behind a fault nothing more is read: this token can stand nowhere, and no other follows it. */
        void stop() {
            type = Token.NO_TOKEN;
            next = length;
        }

        void advance() {
            if (type == Token.NO_TOKEN) {
                return;
            }
            int at = next;
            while (at < length && (byteAt(at) == ' ' || byteAt(at) == 10)) {
                at++;
            }
            place = at;
            next = at + 1;
            int first = byteAt(at);
            if (first == NONE) {
                type = Token.END;
                next = length;
            } else if (isLetter(first)) {
                takeWord();
            } else if (isDigit(first)) {
                takeNumber();
            } else {
                takeSign(first);
            }
        }

        private int byteAt(int at) {
            return at >= 0 && at < length ? text[at] & 255 : NONE;
        }

        private static boolean isLetter(int sign) {
            return sign >= 'a' && sign <= 'z' || sign >= 'A' && sign <= 'Z';
        }

        private static boolean isDigit(int sign) {
            return sign >= '0' && sign <= '9';
        }

        private void takeWord() {
            letters = 0;
            int at = place;
            while (at < length && isLetter(byteAt(at))) {
                letters = letters << 8 | byteAt(at);
                at++;
            }
            next = at;
            letterCount = at - place;
            type = letterCount > MAX_LETTERS ? Token.NO_TOKEN : wordType();
        }

        private int wordType() {
            for (int i = 0; i < Token.WORDS.length; i++) {
                if (Token.WORDS[i] == letters) {
                    return Token.PART + i;
                }
            }
            return Token.NAME;
        }

        private void takeNumber() {
            number = 0;
            int at = place;
            while (at < length && isDigit(byteAt(at))) {
                number = number * 10 + byteAt(at) - '0';
                number = number > TOO_HIGH ? TOO_HIGH : number;
                at++;
            }
            next = at;
            type = Token.DIGITS;
        }

        private void takeSign(int first) {
            if (first == ':' && byteAt(place + 1) == '=') {
                type = Token.ASSIGN;
                next = place + 2;
                return;
            }
            type = isSign(first) ? first : Token.NO_TOKEN;
        }

        private static boolean isSign(int sign) {
            switch (sign) {
                case '(':
                case ')':
                case '[':
                case ']':
                case '{':
                case '}':
                case ',':
                case ';':
                case ':':
                case '=':
                case '<':
                case '+':
                case '-':
                case '*':
                case '/':
                case '%':
                case '!':
                    return true;
                default:
                    return false;
            }
        }
    }

    /** Kinds by number, each once, so that two kinds are alike just if their numbers are the same. */
    private static final class Kinds {
        static final int INT = 0;
        static final int FLAG = 1;
        static final int ANY = 2;
        static final int ROW_OF_ANY = 3;
        /** The function of n anys to any is this and n. */
        static final int ANY_FUNCTION = 4;
        private static final int FIRST_KINDS = ANY_FUNCTION + MAX_PARAMS + 1;
        /** A kind beyond these takes two bytes of text at least, or is a part's. */
        private static final int ROOM = MAX_TAPE / 2 + MAX_PARTS + FIRST_KINDS;
        private static final int BUCKETS = 512;
        private static final int WIDTH = MAX_PARAMS + 1;

        /** The sort of the values that have this kind; of any its own number. */
        private final int[] sort = new int[ROOM];
        private final int[] takes = new int[ROOM];
        /** Of a kind its params' kinds, and last what it gives (of a row: what it has). */
        private final int[] inner = new int[ROOM * WIDTH];
        private final int[] code = new int[ROOM];
        private final boolean[] hasAny = new boolean[ROOM];
        private final int[] bucket = new int[BUCKETS];
        private final int[] nextInBucket = new int[ROOM];
        int count = 0;

        Kinds() {
            Arrays.fill(bucket, NONE);
            int[] anys = {ANY, ANY, ANY, ANY};
            findOrAdd(NUMBER, 0, anys, 0, ANY, 1);
            findOrAdd(TRUTH, 0, anys, 0, ANY, 2);
            findOrAdd(ANY, 0, anys, 0, ANY, 3);
            rowOf(ANY);
            for (int n = 0; n <= MAX_PARAMS; n++) {
                functionOf(anys, 0, n, ANY);
            }
        }

        void forgetTexts() {
            cutTo(FIRST_KINDS);
        }

        /** Later kinds stand first in their buckets, so they are taken out in backward order. */
        void cutTo(int kept) {
            for (int kind = count - 1; kind >= kept && kind >= FIRST_KINDS; kind--) {
                bucket[bucketOf(code[kind])] = nextInBucket[kind];
                count = kind;
            }
        }

        int rowOf(int kind) {
            int rowCode = 5 * codeOf(kind) + 4;
            return findOrAdd(ROW, 0, inner, 0, kind, rowCode);
        }

        int functionOf(int[] params, int from, int n, int gives) {
            if (n < 0 || n > MAX_PARAMS || from < 0 || from > params.length - n) {
                return ANY;
            }
            int functionCode = 7 + n;
            for (int i = 0; i < n; i++) {
                functionCode = 31 * functionCode + codeOf(params[from + i]);
            }
            functionCode = 31 * functionCode + codeOf(gives);
            return findOrAdd(FUNCTION, n, params, from, gives, functionCode);
        }

        private static int bucketOf(int kindCode) {
            return (kindCode ^ kindCode >>> 9 ^ kindCode >>> 18) & BUCKETS - 1;
        }

        private int findOrAdd(int newSort, int n, int[] params, int from, int gives, int newCode) {
            int b = bucketOf(newCode);
            int kind = bucket[b];
            for (int i = 0; i < ROOM && kind != NONE; i++) {
                if (sort[kind] == newSort && isSame(kind, n, params, from, gives)) {
                    return kind;
                }
                kind = nextInBucket[kind];
            }
            if (count >= ROOM) {
                return ANY;
            }
            kind = count;
            count++;
            sort[kind] = newSort;
            takes[kind] = n;
            code[kind] = newCode;
            inner[kind * WIDTH + MAX_PARAMS] = gives;
            boolean any = newSort == ANY || newSort >= ROW && hasAny(gives);
            for (int i = 0; i < n; i++) {
                inner[kind * WIDTH + i] = params[from + i];
                any = any || hasAny(params[from + i]);
            }
            hasAny[kind] = any;
            nextInBucket[kind] = bucket[b];
            bucket[b] = kind;
            return kind;
        }

        private boolean isSame(int kind, int n, int[] params, int from, int gives) {
            if (takes[kind] != n || inner[kind * WIDTH + MAX_PARAMS] != gives) {
                return false;
            }
            for (int i = 0; i < n; i++) {
                if (inner[kind * WIDTH + i] != params[from + i]) {
                    return false;
                }
            }
            return true;
        }

        int codeOf(int kind) {
            return kind >= 0 && kind < count ? code[kind] : NONE;
        }

        int sortOf(int kind) {
            return kind >= 0 && kind < count ? sort[kind] : ANY;
        }

        boolean hasAny(int kind) {
            return kind >= 0 && kind < count && hasAny[kind];
        }

        int takenBy(int kind) {
            return kind >= 0 && kind < count ? takes[kind] : 0;
        }

        int paramOf(int kind, int i) {
            return kind >= 0 && kind < count && i >= 0 && i < takes[kind] ? inner[kind * WIDTH + i] : ANY;
        }

        int givesOf(int kind) {
            return kind >= 0 && kind < count ? inner[kind * WIDTH + MAX_PARAMS] : ANY;
        }

        /** The kind of the same outermost form with nothing but any within. */
        int withAnys(int kind) {
            if (sortOf(kind) == ROW) {
                return ROW_OF_ANY;
            }
            return sortOf(kind) == FUNCTION ? ANY_FUNCTION + takenBy(kind) : ANY;
        }

        /** Only params go deeper: rows may be nested by the hundred, where lets add to them. */
        boolean fit(int a, int b, int depth) {
            int one = a;
            int other = b;
            for (int i = 0; i < ROOM; i++) {
                if (one == other || one == ANY || other == ANY) {
                    return true;
                }
                if (sortOf(one) != sortOf(other) || takenBy(one) != takenBy(other) || depth > MAX_OPEN) {
                    return false;
                }
                for (int p = 0; p < takenBy(one); p++) {
                    if (!fit(paramOf(one, p), paramOf(other, p), depth + 1)) {
                        return false;
                    }
                }
                one = givesOf(one);
                other = givesOf(other);
            }
            return false;
        }
    }

    /** What an instruction does. Askings stand last; y of an asking is its guard. */
    private static final class Op {
        /** x steps are made: each e that begins with this token. */
        static final int STEP = 0;
        static final int NUMBER = 1;
        static final int TRUTH = 2;
        static final int LOCAL = 3;
        static final int PART = 4;
        static final int BIND = 5;
        /** To x, if what is on top is false. */
        static final int BRANCH = 6;
        static final int JUMP = 7;
        /** Where both ways of an if come together. */
        static final int JOIN = 8;
        static final int DROP = 9;
        static final int ROW = 10;
        static final int NEW = 11;
        static final int SIZE = 12;
        static final int PRINT = 13;
        static final int FETCH = 14;
        static final int STORE = 15;
        static final int CALL = 16;
        static final int RETURN = 17;
        static final int NEGATE = 18;
        static final int NOT = 19;
        static final int LESS = 20;
        static final int SAME = 21;
        static final int ADD = 22;
        static final int SUBTRACT = 23;
        static final int MULTIPLY = 24;
        static final int DIVIDE = 25;
        static final int REMAINDER = 26;
        static final int ASK_INT = 27;
        static final int ASK_FLAG = 28;
        static final int ASK_ROW = 29;
        /** What is called with x values, but a part's name alone. */
        static final int ASK_CALLED = 30;
        /** What is called with x values, a part's name alone. */
        static final int ASK_NAMED = 31;
        /** Value x of a call. */
        static final int ASK_VALUE = 32;
        static final int ASK_STORED = 33;
        /** Of a let with the kind x. */
        static final int ASK_LET = 34;
        static final int ASK_OWN = 35;
        /** What goes into a row, or out of an if: it is asked only if the kinds there are not alike. */
        static final int ASK_MIXED = 36;
    }

    /** A text that has been read: its parts, its kinds, and code for both judging and running. */
    private static final class Program {
        final Kinds kinds = new Kinds();
        int parts = 0;
        int mainPart = NONE;
        final long[] name = new long[MAX_PARTS];
        final int[] letters = new int[MAX_PARTS];
        final int[] partPlace = new int[MAX_PARTS];
        final int[] params = new int[MAX_PARTS];
        final int[] paramKind = new int[MAX_PARTS * MAX_PARAMS];
        final int[] ownKind = new int[MAX_PARTS];
        final boolean[] isTold = new boolean[MAX_PARTS];
        /** Where a part's code begins; it ends where the next one's begins. */
        final int[] entry = new int[MAX_PARTS + 1];
        /** How many kinds its text has: those above are made in judging. */
        int textKinds = 0;
        final int[] op = new int[MAX_CODE];
        final int[] x = new int[MAX_CODE];
        final int[] y = new int[MAX_CODE];
        final int[] place = new int[MAX_CODE];
        int length = 0;

        void clear() {
            kinds.forgetTexts();
            parts = 0;
            mainPart = NONE;
            length = 0;
            for (int k = 0; k < MAX_PARTS; k++) {
                isTold[k] = true;
            }
        }

        int letterOf(int k, int i) {
            if (i < 0 || i >= letters[k]) {
                return NONE;
            }
            return (int) (name[k] >> 8 * (letters[k] - 1 - i)) & 255;
        }

        int partOfName(long wanted) {
            for (int k = 0; k < parts; k++) {
                if (name[k] == wanted) {
                    return k;
                }
            }
            return NONE;
        }

        int paramsOf(int k) {
            return k >= 0 && k < parts ? params[k] : NONE;
        }

        int emit(int newOp, int newX, int newPlace) {
            if (length >= MAX_CODE) {
                return MAX_CODE - 1;
            }
            op[length] = newOp;
            x[length] = newX;
            y[length] = NONE;
            place[length] = newPlace;
            length++;
            return length - 1;
        }
    }

    /** Reads a text into a program; code is written as the tokens are come to. */
    private static final class Reader {
        private static final int COMPARE = 1;
        private static final int SUM = 2;
        private static final int PRODUCT = 3;
        /** Of each e that is open one sign of each level can wait. */
        private static final int MAX_WAITING = PRODUCT * (MAX_OPEN + 2);

        private final Tokens tokens = new Tokens();
        private Program program = null;
        private int open = 0;
        int fault = 0;
        int faultPlace = NONE;
        private final int[] namePlace = new int[MAX_PARTS];
        private final long[] local = new long[MAX_LOCALS];
        private int locals = 0;
        private final int[] waitingSign = new int[MAX_WAITING];
        private final int[] waitingPlace = new int[MAX_WAITING];
        private final int[] waitingLeft = new int[MAX_WAITING];
        private int waiting = 0;
        private final int[] listedKind = new int[MAX_PARAMS * (MAX_OPEN + 1)];
        private int listedKinds = 0;

        void readInto(Program into, byte[] tape, int length) {
            if (into == null || tape == null) {
                return;
            }
            program = into;
            program.clear();
            fault = 0;
            faultPlace = NONE;
            open = 0;
            waiting = 0;
            listedKinds = 0;
            tokens.begin(tape, length);
            for (int k = 0; k <= MAX_PARTS && tokens.type == Token.PART; k++) {
                if (k >= MAX_PARTS) {
                    refuse(FAULT_TOO_MANY);
                } else {
                    takePartName(k);
                    takeParams(k);
                    takeOwnKind(k);
                    endPart(k, takeE());
                }
            }
            if (tokens.type != Token.END) {
                refuse(FAULT_STANDS);
            }
            program.entry[program.parts] = program.length;
            program.textKinds = program.kinds.count;
            if (fault == 0) {
                resolve(length);
            }
        }

        private void refuse(int newFault) {
            refuseAt(newFault, tokens.place);
            tokens.stop();
        }

        /** The first fault counts. */
        private void refuseAt(int newFault, int place) {
            if (fault == 0) {
                fault = newFault;
                faultPlace = place;
            }
        }

        private void want(int type) {
            if (tokens.type == type) {
                tokens.advance();
            } else {
                refuse(FAULT_STANDS);
            }
        }

        /** What is entered is open until open is counted down again. */
        private void enter(int type) {
            if (tokens.type != type) {
                refuse(FAULT_STANDS);
            } else if (open >= MAX_OPEN) {
                refuse(FAULT_TOO_MANY);
            } else {
                tokens.advance();
            }
            open++;
        }

        private void takePartName(int k) {
            program.partPlace[k] = tokens.place;
            tokens.advance();
            namePlace[k] = tokens.place;
            program.name[k] = tokens.letters;
            program.letters[k] = tokens.letterCount;
            want(Token.NAME);
        }

        private void takeOwnKind(int k) {
            program.ownKind[k] = tookColon() ? takeKind() : Kinds.ANY;
            want('=');
            program.entry[k] = program.length;
        }

        private void endPart(int k, int first) {
            program.emit(Op.ASK_OWN, k, placeOf(first));
            program.emit(Op.RETURN, 0, placeOf(first));
            want(';');
            program.parts = k + 1;
        }

        private void takeParams(int k) {
            locals = 0;
            enter('(');
            for (int i = 0; i <= MAX_PARAMS && (i > 0 || tokens.type != ')'); i++) {
                long letters = tokens.letters;
                if (tokens.type == Token.NAME && slotOf(letters) != NONE) {
                    refuse(FAULT_PARAM_TWICE);
                } else if (tokens.type == Token.NAME && i >= MAX_PARAMS) {
                    refuse(FAULT_TOO_MANY);
                }
                want(Token.NAME);
                if (fault != 0) {
                    break;
                }
                pushLocal(letters);
                program.paramKind[k * MAX_PARAMS + i] = tookColon() ? takeKind() : Kinds.ANY;
                if (tokens.type != ',') {
                    break;
                }
                tokens.advance();
            }
            program.params[k] = locals;
            want(')');
            open--;
        }

        private void pushLocal(long letters) {
            if (locals < MAX_LOCALS) {
                local[locals] = letters;
                locals++;
            }
        }

        /** The innermost one counts. */
        private int slotOf(long letters) {
            for (int i = locals - 1; i >= 0; i--) {
                if (local[i] == letters) {
                    return i;
                }
            }
            return NONE;
        }

        private boolean tookColon() {
            if (tokens.type != ':') {
                return false;
            }
            tokens.advance();
            return true;
        }

        private boolean beginsKind() {
            return tokens.type == '[' || tokens.type >= Token.INT && tokens.type <= Token.FN;
        }

        private int takeKind() {
            if (!beginsKind()) {
                refuse(FAULT_STANDS);
                return Kinds.ANY;
            }
            if (tokens.type == Token.FN) {
                return takeFunctionKind();
            }
            if (tokens.type == '[') {
                enter('[');
                int of = takeKind();
                want(']');
                open--;
                return program.kinds.rowOf(of);
            }
            int plain = Kinds.INT + tokens.type - Token.INT;
            tokens.advance();
            return plain;
        }

        private int takeFunctionKind() {
            int from = listedKinds;
            enter(Token.FN);
            enter('(');
            if (tokens.type != ')') {
                takeKindList();
            }
            want(')');
            open--;
            int gives = takeKind();
            int kind = program.kinds.functionOf(listedKind, from, listedKinds - from, gives);
            listedKinds = from;
            open--;
            return kind;
        }

        private void takeKindList() {
            for (int i = 0; i <= MAX_PARAMS; i++) {
                if (i >= MAX_PARAMS && beginsKind()) {
                    refuse(FAULT_TOO_MANY);
                }
                int kind = takeKind();
                if (fault != 0 || listedKinds >= listedKind.length) {
                    return;
                }
                listedKind[listedKinds] = kind;
                listedKinds++;
                if (tokens.type != ',') {
                    return;
                }
                tokens.advance();
            }
        }

        /** Where the e begins whose first instruction, its step, is told. */
        private int placeOf(int first) {
            return program.place[first];
        }

        private int emitStep() {
            return program.emit(Op.STEP, 1, tokens.place);
        }

        /** An e that has another at its left begins with that one's token: its step is made there. */
        private void addStep(int first) {
            program.x[first]++;
        }

        /** Reads an e, and answers where its step stands in the code; so do those below. */
        private int takeE() {
            if (tokens.type == Token.LET) {
                return takeLet();
            }
            return tokens.type == Token.IF ? takeIf() : takeC();
        }

        private int takeLet() {
            int first = emitStep();
            enter(Token.LET);
            long letters = tokens.letters;
            want(Token.NAME);
            int kind = tookColon() ? takeKind() : NONE;
            want('=');
            int value = takeE();
            if (kind != NONE) {
                program.emit(Op.ASK_LET, kind, placeOf(value));
            }
            want(Token.IN);
            int outer = locals;
            program.emit(Op.BIND, outer, placeOf(value));
            pushLocal(letters);
            takeE();
            locals = outer;
            open--;
            return first;
        }

        private int takeIf() {
            int first = emitStep();
            enter(Token.IF);
            int asks = takeE();
            program.emit(Op.ASK_FLAG, 0, placeOf(asks));
            int branch = program.emit(Op.BRANCH, 0, placeOf(asks));
            want(Token.THEN);
            int yes = takeE();
            program.emit(Op.ASK_MIXED, 0, placeOf(yes));
            int jump = program.emit(Op.JUMP, 0, placeOf(yes));
            want(Token.ELSE);
            program.x[branch] = program.length;
            int no = takeE();
            program.emit(Op.ASK_MIXED, 0, placeOf(no));
            program.x[jump] = program.emit(Op.JOIN, 0, placeOf(first));
            open--;
            return first;
        }

        /** C, S and T at once: a sign waits until its right side is whole. */
        private int takeC() {
            int floor = waiting;
            int sums = 0;
            int products = 0;
            boolean compared = false;
            int first = takeU();
            for (int i = 0; i < MAX_TAPE; i++) {
                int level = levelOf(tokens.type);
                if (level == 0 || level == COMPARE && compared) {
                    break;
                }
                first = applyWaiting(floor, level, first);
                compared = compared || level == COMPARE;
                products = level == PRODUCT ? products + 1 : 0;
                sums = level == SUM ? sums + 1 : level == COMPARE ? 0 : sums;
                if (sums > MAX_SIGNS || products > MAX_SIGNS) {
                    refuse(FAULT_TOO_MANY);
                }
                pushWaiting(first);
                tokens.advance();
                first = takeU();
            }
            return applyWaiting(floor, COMPARE, first);
        }

        private static int levelOf(int sign) {
            switch (sign) {
                case '<':
                case '=':
                    return COMPARE;
                case '+':
                case '-':
                    return SUM;
                case '*':
                case '/':
                case '%':
                    return PRODUCT;
                default:
                    return 0;
            }
        }

        private void pushWaiting(int left) {
            program.emit(Op.ASK_INT, 0, placeOf(left));
            if (waiting < MAX_WAITING) {
                waitingSign[waiting] = tokens.type;
                waitingPlace[waiting] = tokens.place;
                waitingLeft[waiting] = left;
                waiting++;
            }
        }

        private int applyWaiting(int floor, int level, int right) {
            int first = right;
            for (int i = waiting - 1; i >= floor && levelOf(waitingSign[i]) >= level; i--) {
                program.emit(Op.ASK_INT, 0, placeOf(first));
                program.emit(opOf(waitingSign[i]), 0, waitingPlace[i]);
                first = waitingLeft[i];
                addStep(first);
                waiting = i;
            }
            return first;
        }

        private static int opOf(int sign) {
            switch (sign) {
                case '<':
                    return Op.LESS;
                case '=':
                    return Op.SAME;
                case '+':
                    return Op.ADD;
                case '-':
                    return Op.SUBTRACT;
                case '*':
                    return Op.MULTIPLY;
                case '/':
                    return Op.DIVIDE;
                default:
                    return Op.REMAINDER;
            }
        }

        private int takeU() {
            if (tokens.type == '-') {
                return takePrefix(Op.ASK_INT, Op.NEGATE);
            }
            if (tokens.type == '!') {
                return takePrefix(Op.ASK_FLAG, Op.NOT);
            }
            boolean named = tokens.type == Token.NAME && slotOf(tokens.letters) == NONE;
            boolean stored = false;
            int first = takeB();
            for (int i = 0; i <= MAX_SIGNS && !stored && (tokens.type == '(' || tokens.type == '['); i++) {
                addStep(first);
                if (i >= MAX_SIGNS) {
                    refuse(FAULT_TOO_MANY);
                } else if (tokens.type == '(') {
                    takeCall(named && i == 0 ? Op.ASK_NAMED : Op.ASK_CALLED);
                } else {
                    stored = takePlace();
                }
            }
            return first;
        }

        private int takePrefix(int asking, int work) {
            int first = emitStep();
            enter(tokens.type);
            int of = takeU();
            program.emit(asking, 0, placeOf(of));
            program.emit(work, 0, placeOf(first));
            open--;
            return first;
        }

        private void takeCall(int asking) {
            int place = tokens.place;
            int called = program.emit(asking, 0, place);
            int n = takeList(')', MAX_PARAMS, Op.ASK_VALUE);
            program.x[called] = n;
            program.emit(Op.CALL, n, place);
        }

        /** From the sign that opens it to the one that closes it: how many e it has. */
        private int takeList(int closing, int most, int asking) {
            int n = 0;
            enter(tokens.type);
            for (int i = 0; i <= most && (n > 0 || tokens.type != closing); i++) {
                if (i >= most && beginsE()) {
                    refuse(FAULT_TOO_MANY);
                }
                int item = takeE();
                program.emit(asking, i, placeOf(item));
                n++;
                if (tokens.type != ',') {
                    break;
                }
                tokens.advance();
            }
            want(closing);
            open--;
            return n;
        }

        private boolean beginsE() {
            switch (tokens.type) {
                case Token.LET:
                case Token.IF:
                case Token.DIGITS:
                case Token.TRUE:
                case Token.FALSE:
                case Token.NAME:
                case Token.NEW:
                case Token.SIZE:
                case Token.PRINT:
                case '-':
                case '!':
                case '[':
                case '(':
                case '{':
                    return true;
                default:
                    return false;
            }
        }

        /** Whether something is stored there: nothing more of its Q can follow then. */
        private boolean takePlace() {
            int place = tokens.place;
            program.emit(Op.ASK_ROW, 0, place);
            enter('[');
            int index = takeE();
            program.emit(Op.ASK_INT, 0, placeOf(index));
            want(']');
            open--;
            if (tokens.type != Token.ASSIGN) {
                program.emit(Op.FETCH, 0, place);
                return false;
            }
            enter(Token.ASSIGN);
            int value = takeE();
            program.emit(Op.ASK_STORED, 0, placeOf(value));
            program.emit(Op.STORE, 0, place);
            open--;
            return true;
        }

        private int takeB() {
            int first = emitStep();
            switch (tokens.type) {
                case Token.DIGITS:
                    takeDigits();
                    break;
                case Token.TRUE:
                case Token.FALSE:
                    program.emit(Op.TRUTH, tokens.type == Token.TRUE ? 1 : 0, tokens.place);
                    tokens.advance();
                    break;
                case Token.NAME:
                    takeName();
                    break;
                case Token.NEW:
                    takeNew();
                    break;
                case Token.SIZE:
                    takeWork(Op.ASK_ROW, Op.SIZE);
                    break;
                case Token.PRINT:
                    takeWork(Op.ASK_INT, Op.PRINT);
                    break;
                case '[':
                    program.emit(Op.ROW, takeList(']', MAX_ITEMS, Op.ASK_MIXED), placeOf(first));
                    break;
                case '(':
                    enter('(');
                    takeE();
                    want(')');
                    open--;
                    break;
                case '{':
                    takeBlock();
                    break;
                default:
                    refuse(FAULT_STANDS);
                    break;
            }
            return first;
        }

        private void takeDigits() {
            if (tokens.number >= Tokens.TOO_HIGH) {
                refuse(FAULT_NUMBER);
                return;
            }
            program.emit(Op.NUMBER, (int) tokens.number, tokens.place);
            tokens.advance();
        }

        private void takeName() {
            int slot = slotOf(tokens.letters);
            program.emit(slot == NONE ? Op.PART : Op.LOCAL, slot, tokens.place);
            tokens.advance();
        }

        private void takeNew() {
            int place = tokens.place;
            tokens.advance();
            enter('(');
            int count = takeE();
            program.emit(Op.ASK_INT, 0, placeOf(count));
            want(',');
            takeE();
            want(')');
            open--;
            program.emit(Op.NEW, 0, place);
        }

        private void takeWork(int asking, int work) {
            int place = tokens.place;
            tokens.advance();
            enter('(');
            int of = takeE();
            program.emit(asking, 0, placeOf(of));
            want(')');
            open--;
            program.emit(work, 0, place);
        }

        private void takeBlock() {
            enter('{');
            takeE();
            for (int i = 0; i < MAX_TAPE && tokens.type == ';'; i++) {
                program.emit(Op.DROP, 0, tokens.place);
                tokens.advance();
                takeE();
            }
            want('}');
            open--;
        }

        /** Parts are known in the whole text, so their names are looked up when all of it is read. */
        private void resolve(int length) {
            for (int k = 0; k < program.parts && fault == 0; k++) {
                if (program.partOfName(program.name[k]) != k) {
                    refuseAt(FAULT_PART_TWICE, namePlace[k]);
                }
                for (int pc = program.entry[k]; pc < program.entry[k + 1]; pc++) {
                    resolveAt(pc);
                }
            }
            program.mainPart = program.partOfName(Token.MAIN);
            if (program.paramsOf(program.mainPart) != 0) {
                refuseAt(FAULT_NO_MAIN, length);
            }
        }

        private void resolveAt(int pc) {
            if (program.op[pc] != Op.PART) {
                return;
            }
            tokens.goTo(program.place[pc]);
            int k = program.partOfName(tokens.letters);
            if (k == NONE) {
                refuseAt(FAULT_UNKNOWN, program.place[pc]);
            }
            program.x[pc] = k;
        }
    }

    /** The guards of the judged program, in the order in which they were laid. */
    private static final class Guards {
        final int[] place = new int[MAX_TAPE];
        final int[] giver = new int[MAX_TAPE];
        final int[] taker = new int[MAX_TAPE];
        final int[] from = new int[MAX_TAPE];
        final int[] to = new int[MAX_TAPE];
        int count = 0;

        int lay(int newPlace, int newGiver, int newTaker, int newFrom, int newTo) {
            if (count >= MAX_TAPE) {
                return NONE;
            }
            place[count] = newPlace;
            giver[count] = newGiver;
            taker[count] = newTaker;
            from[count] = newFrom;
            to[count] = newTo;
            count++;
            return count - 1;
        }
    }

    /** Walks over the code in the order of the text, with the kind of each e on a stack. */
    private static final class Judging {
        /** What waits for an e has a byte of its own at least. */
        private static final int MAX_STACK = MAX_TAPE;

        private Guards guards = null;
        private Program program = null;
        private Kinds kinds = null;
        private int inPart = 0;
        int fault = 0;
        int faultPlace = NONE;
        final boolean[] anyStands = new boolean[MAX_PARTS];
        private final int[] paramKind = new int[MAX_PARTS * MAX_PARAMS];
        private final int[] ownKind = new int[MAX_PARTS];
        private final int[] partKind = new int[MAX_PARTS];
        private final int[] localKind = new int[MAX_LOCALS];
        private final int[] stack = new int[MAX_STACK];
        /** Where what is on the stack is asked: of rows and ifs guards are laid when all is judged. */
        private final int[] askedAt = new int[MAX_STACK];
        /** Of what is called: the taker of its values. */
        private final int[] takerOf = new int[MAX_STACK];
        private int top = 0;

        void judgeAll(Program toJudge, Guards toLay) {
            if (toJudge == null || toLay == null) {
                return;
            }
            program = toJudge;
            kinds = toJudge.kinds;
            guards = toLay;
            kinds.cutTo(program.textKinds);
            guards.count = 0;
            fault = 0;
            faultPlace = NONE;
            for (int k = 0; k < program.parts; k++) {
                takeHeader(k);
            }
            for (int k = 0; k < program.parts && fault == 0; k++) {
                judgePart(k);
            }
        }

        private void takeHeader(int k) {
            int from = k * MAX_PARAMS;
            for (int i = 0; i < program.params[k]; i++) {
                paramKind[from + i] = asTold(k, program.paramKind[from + i]);
            }
            ownKind[k] = asTold(k, program.ownKind[k]);
            partKind[k] = kinds.functionOf(paramKind, from, program.params[k], ownKind[k]);
            anyStands[k] = kinds.hasAny(partKind[k]);
        }

        private int asTold(int k, int kind) {
            return program.isTold[k] ? kind : Kinds.ANY;
        }

        private void judgePart(int k) {
            inPart = k;
            top = 0;
            for (int i = 0; i < program.params[k]; i++) {
                localKind[i] = paramKind[k * MAX_PARAMS + i];
            }
            for (int pc = program.entry[k]; pc < program.entry[k + 1] && fault == 0; pc++) {
                if (program.op[pc] >= Op.ASK_INT) {
                    program.y[pc] = NONE;
                    judgeAsking(pc);
                } else if (program.op[pc] >= Op.NEW) {
                    judgeWork(program.op[pc], program.x[pc]);
                } else {
                    judgePlain(program.op[pc], program.x[pc]);
                }
            }
        }

        /** The kind of every e comes by here, so that none is missed of whether ANY stands in the part. */
        private void push(int kind) {
            if (top < MAX_STACK) {
                stack[top] = kind;
                top++;
            }
            anyStands[inPart] = anyStands[inPart] || kinds.hasAny(kind);
        }

        private int pop() {
            if (top <= 0) {
                return Kinds.ANY;
            }
            top--;
            return stack[top];
        }

        /** The kind that stands so far below the top. */
        private int below(int depth) {
            int at = top - 1 - depth;
            return at >= 0 ? stack[at] : Kinds.ANY;
        }

        private void replace(int many, int kind) {
            top = Math.max(0, top - many);
            push(kind);
        }

        private void judgePlain(int op, int x) {
            switch (op) {
                case Op.STEP:
                case Op.JUMP:
                    break;
                case Op.NUMBER:
                    push(Kinds.INT);
                    break;
                case Op.TRUTH:
                    push(Kinds.FLAG);
                    break;
                case Op.LOCAL:
                    push(x >= 0 && x < MAX_LOCALS ? localKind[x] : Kinds.ANY);
                    break;
                case Op.PART:
                    push(x >= 0 && x < MAX_PARTS ? partKind[x] : Kinds.ANY);
                    break;
                case Op.BIND:
                    bind(x);
                    break;
                case Op.BRANCH:
                case Op.DROP:
                    pop();
                    break;
                case Op.JOIN:
                    push(mix(2));
                    break;
                default:
                    push(kinds.rowOf(mix(x)));
                    break;
            }
        }

        private void judgeWork(int op, int x) {
            switch (op) {
                case Op.NEW:
                    replace(2, kinds.rowOf(below(0)));
                    break;
                case Op.FETCH:
                    replace(2, kinds.givesOf(below(1)));
                    break;
                case Op.STORE:
                    replace(3, kinds.givesOf(below(2)));
                    break;
                case Op.CALL:
                    replace(x + 1, kinds.givesOf(below(x)));
                    break;
                case Op.RETURN:
                    pop();
                    break;
                case Op.SIZE:
                case Op.PRINT:
                case Op.NEGATE:
                    replace(1, Kinds.INT);
                    break;
                case Op.NOT:
                    replace(1, Kinds.FLAG);
                    break;
                case Op.LESS:
                case Op.SAME:
                    replace(2, Kinds.FLAG);
                    break;
                default:
                    replace(2, Kinds.INT);
                    break;
            }
        }

        private void bind(int slot) {
            int kind = pop();
            if (slot >= 0 && slot < MAX_LOCALS) {
                localKind[slot] = kind;
            }
        }

        /** Takes so many kinds off: what they come to together, with guards to any where they are not alike. */
        private int mix(int many) {
            int from = Math.max(0, top - many);
            int kind = from < top ? stack[from] : Kinds.ANY;
            boolean alike = true;
            for (int i = from; i < top; i++) {
                alike = alike && stack[i] == kind;
            }
            for (int i = from; i < top && !alike; i++) {
                if (stack[i] != Kinds.ANY) {
                    layGuard(askedAt[i], stack[i], Kinds.ANY, inPart);
                }
            }
            top = from;
            return alike ? kind : Kinds.ANY;
        }

        private void layGuard(int pc, int from, int to, int taker) {
            program.y[pc] = guards.lay(program.place[pc], inPart, taker, from, to);
        }

        private void judgeAsking(int pc) {
            int x = program.x[pc];
            switch (program.op[pc]) {
                case Op.ASK_INT:
                    meet(pc, Kinds.INT, inPart);
                    break;
                case Op.ASK_FLAG:
                    meet(pc, Kinds.FLAG, inPart);
                    break;
                case Op.ASK_ROW:
                    meetForm(pc, ROW, Kinds.ROW_OF_ANY);
                    break;
                case Op.ASK_CALLED:
                case Op.ASK_NAMED:
                    meetCalled(pc, x);
                    break;
                case Op.ASK_VALUE:
                    meet(pc, kinds.paramOf(below(x + 1), x), takerBelow(x + 1));
                    break;
                case Op.ASK_STORED:
                    meet(pc, kinds.givesOf(below(2)), inPart);
                    break;
                case Op.ASK_LET:
                    anyStands[inPart] = anyStands[inPart] || kinds.hasAny(asTold(inPart, x));
                    meet(pc, asTold(inPart, x), inPart);
                    break;
                case Op.ASK_OWN:
                    meet(pc, ownKind[inPart], inPart);
                    break;
                default:
                    askedAt[Math.max(0, top - 1)] = pc;
                    break;
            }
        }

        private int takerBelow(int depth) {
            int at = top - 1 - depth;
            return at >= 0 ? takerOf[at] : inPart;
        }

        /** What is on top must fit a kind, and has it from then on. */
        private void meet(int pc, int wanted, int taker) {
            int kind = below(0);
            if (!kinds.fit(kind, wanted, 0)) {
                refuse(FAULT_FIT, pc);
            } else if (kind != wanted) {
                layGuard(pc, kind, wanted, taker);
                setTop(wanted);
            }
        }

        private void setTop(int kind) {
            stack[Math.max(0, top - 1)] = kind;
        }

        /** What is on top must be a row, or a function, or any. */
        private void meetForm(int pc, int sort, int ofAnys) {
            int kind = below(0);
            if (kind == Kinds.ANY) {
                layGuard(pc, kind, ofAnys, inPart);
                setTop(ofAnys);
            } else if (kinds.sortOf(kind) != sort) {
                refuse(FAULT_FIT, pc);
            }
        }

        private void meetCalled(int pc, int n) {
            meetForm(pc, FUNCTION, Kinds.ANY_FUNCTION + n);
            if (fault == 0 && kinds.takenBy(below(0)) != n) {
                refuse(FAULT_COUNT, pc);
            }
            boolean named = program.op[pc] == Op.ASK_NAMED && pc > 0;
            takerOf[Math.max(0, top - 1)] = named ? program.x[pc - 1] : inPart;
        }

        private void refuse(int newFault, int pc) {
            fault = newFault;
            faultPlace = program.place[pc];
        }
    }

    /** Values are longs: the sort above, and below a number, a truth, or which row, part or wrapping. */
    private static final class Heap {
        int rows = 0;
        int places = 0;
        int wrappings = 0;
        private final int[] rowFrom = new int[MAX_THINGS];
        private final int[] rowLength = new int[MAX_THINGS];
        private final long[] cell = new long[MAX_PLACES];
        final long[] within = new long[MAX_THINGS];
        final int[] from = new int[MAX_THINGS];
        final int[] to = new int[MAX_THINGS];
        final int[] giver = new int[MAX_THINGS];
        final int[] taker = new int[MAX_THINGS];
        final int[] place = new int[MAX_THINGS];
        final int[] around = new int[MAX_THINGS];

        void clear() {
            rows = 0;
            places = 0;
            wrappings = 0;
        }

        static long valueOf(int sort, int content) {
            return (long) sort << 32 | content & 0xffffffffL;
        }

        static int sortOf(long value) {
            return (int) (value >> 32);
        }

        static int contentOf(long value) {
            return (int) value;
        }

        boolean hasRoom(int newPlaces) {
            return rows + wrappings < MAX_THINGS && newPlaces <= MAX_PLACES - places;
        }

        /** Only where there is room; its places are filled with one value. */
        long newRow(int length, long value) {
            int row = rows;
            rows++;
            rowFrom[row] = places;
            rowLength[row] = length;
            for (int i = 0; i < length; i++) {
                cell[places + i] = value;
            }
            places += length;
            return valueOf(ROW, row);
        }

        /** How many places a row has; NONE for other values. */
        int lengthOf(long value) {
            int row = contentOf(value);
            return sortOf(value) == ROW && row >= 0 && row < rows ? rowLength[row] : NONE;
        }

        boolean hasPlace(long row, int i) {
            return i >= 0 && i < lengthOf(row);
        }

        long fetch(long row, int i) {
            return hasPlace(row, i) ? cell[rowFrom[contentOf(row)] + i] : 0;
        }

        void store(long row, int i, long value) {
            if (hasPlace(row, i)) {
                cell[rowFrom[contentOf(row)] + i] = value;
            }
        }

        /** Which wrapping is the outermost one; NONE if there is none. */
        int wrappingOf(long value) {
            int w = (int) value;
            return value >> 32 == WRAPPED && w >= 0 && w < wrappings ? w : NONE;
        }

        /** What all wrappings are around. */
        long core(long value) {
            long inner = value;
            int w = wrappingOf(inner);
            for (int i = 0; i < MAX_WRAPPINGS && w != NONE; i++) {
                inner = within[w];
                w = wrappingOf(inner);
            }
            return inner;
        }

        int wrappingsAround(long value) {
            int w = wrappingOf(value);
            return w == NONE ? 0 : around[w];
        }
    }

    /** Walks over the code with values on a stack. */
    private static final class Running {
        /** Each value on the stack has had a step of its own, but main. */
        private static final int MAX_STACK = MAX_FUEL + 2;
        /** An instruction belongs to an e or a call, of which each has a handful: no run comes near. */
        private static final int MAX_WORK = 1000000;

        private Guards guards = null;
        private final Heap heap = new Heap();
        private Program program = null;
        private boolean guarded = false;
        private boolean going = false;
        private int ended = 0;
        private int endPlace = NONE;
        private int blamed = NONE;
        private int fuel = 0;
        private int steps = 0;
        private int pc = 0;
        private int calls = 0;
        private final int[] returnTo = new int[MAX_CALLS];
        private final long[] local = new long[MAX_CALLS * MAX_LOCALS];
        private final long[] stack = new long[MAX_STACK];
        private int top = 0;
        private final int[] wrapping = new int[MAX_WRAPPINGS];
        final int[] outNumbers = new int[MAX_OUT];
        int outs = 0;
        final int[] askings = new int[MAX_PARTS * MAX_PARTS];

        int runAll(Program toRun, Guards toAsk, boolean withGuards, int newFuel) {
            if (toRun == null || toAsk == null) {
                return NONE;
            }
            program = toRun;
            guards = toAsk;
            guarded = withGuards;
            fuel = newFuel;
            heap.clear();
            Arrays.fill(askings, 0);
            ended = 0;
            endPlace = NONE;
            blamed = NONE;
            steps = 0;
            calls = 0;
            top = 0;
            outs = 0;
            pc = 0;
            going = true;
            push(Heap.valueOf(FUNCTION, program.mainPart));
            enterPart(program.mainPart, 0, 0);
            for (int i = 0; i < MAX_WORK && going && pc >= 0 && pc < program.length; i++) {
                int here = pc;
                pc++;
                int op = program.op[here];
                if (op >= Op.ASK_INT) {
                    workAsking(here);
                } else if (op >= Op.NEGATE) {
                    workNumbers(op, program.place[here]);
                } else if (op >= Op.ROW) {
                    workRowOrCall(op, program.x[here], program.place[here]);
                } else {
                    workPlain(op, program.x[here], program.place[here]);
                }
            }
            return ended;
        }

        int tellOf(int what) {
            long value = top > 0 ? stack[top - 1] : 0;
            switch (what) {
                case 0:
                    return ended;
                case 1:
                    return endPlace;
                case 2:
                    return blamed;
                case 3:
                    return steps;
                case 4:
                    return ended == 0 ? Heap.sortOf(heap.core(value)) : NONE;
                case 5:
                    return ended == 0 ? contentTold(heap.core(value)) : NONE;
                case 6:
                    return ended == 0 ? heap.wrappingsAround(value) : NONE;
                case 7:
                    return outs;
                case 8:
                    return heap.wrappings;
                case 9:
                    return heap.rows;
                default:
                    return NONE;
            }
        }

        private int contentTold(long value) {
            return Heap.sortOf(value) == ROW ? heap.lengthOf(value) : Heap.contentOf(value);
        }

        private void failWith(int how, int place) {
            if (going) {
                going = false;
                ended = how;
                endPlace = place;
            }
        }

        private void push(long value) {
            if (top < MAX_STACK) {
                stack[top] = value;
                top++;
            }
        }

        private long pop() {
            if (top <= 0) {
                return 0;
            }
            top--;
            return stack[top];
        }

        private int popContent() {
            return Heap.contentOf(pop());
        }

        private void pushNumber(int number) {
            push(Heap.valueOf(NUMBER, number));
        }

        private void pushTruth(boolean truth) {
            push(Heap.valueOf(TRUTH, truth ? 1 : 0));
        }

        private void workPlain(int op, int x, int place) {
            switch (op) {
                case Op.STEP:
                    makeSteps(x, place);
                    break;
                case Op.NUMBER:
                    pushNumber(x);
                    break;
                case Op.TRUTH:
                    pushTruth(x != 0);
                    break;
                case Op.LOCAL:
                    push(local[slotAt(x)]);
                    break;
                case Op.PART:
                    push(Heap.valueOf(FUNCTION, x));
                    break;
                case Op.BIND:
                    local[slotAt(x)] = pop();
                    break;
                case Op.BRANCH:
                    if (popContent() == 0) {
                        pc = x;
                    }
                    break;
                case Op.JUMP:
                    pc = x;
                    break;
                case Op.DROP:
                    pop();
                    break;
                default:
                    break;
            }
        }

        private void makeSteps(int many, int place) {
            if (many > fuel - steps) {
                steps = fuel;
                failWith(FAIL_SPENT, place);
            } else {
                steps += many;
            }
        }

        private int slotAt(int slot) {
            int at = (calls - 1) * MAX_LOCALS + slot;
            return at >= 0 && at < local.length ? at : 0;
        }

        private void workRowOrCall(int op, int x, int place) {
            switch (op) {
                case Op.ROW:
                    makeRow(x, place);
                    break;
                case Op.NEW:
                    makeNew(place);
                    break;
                case Op.SIZE:
                    pushNumber(Math.max(0, heap.lengthOf(heap.core(pop()))));
                    break;
                case Op.PRINT:
                    print(place);
                    break;
                case Op.FETCH:
                    fetch(place);
                    break;
                case Op.STORE:
                    store(place);
                    break;
                case Op.CALL:
                    callWith(x, place);
                    break;
                default:
                    leavePart();
                    break;
            }
        }

        private void makeRow(int length, int place) {
            if (!heap.hasRoom(length)) {
                failWith(FAIL_FULL, place);
                return;
            }
            long row = heap.newRow(length, 0);
            for (int i = length - 1; i >= 0; i--) {
                heap.store(row, i, pop());
            }
            push(row);
        }

        private void makeNew(int place) {
            long value = pop();
            int length = popContent();
            if (length < 0 || length > MAX_NEW) {
                failWith(FAIL_PLACE, place);
            } else if (!heap.hasRoom(length)) {
                failWith(FAIL_FULL, place);
            } else {
                push(heap.newRow(length, value));
            }
        }

        private void print(int place) {
            if (outs >= MAX_OUT) {
                failWith(FAIL_FULL, place);
                return;
            }
            outNumbers[outs] = popContent();
            pushNumber(outNumbers[outs]);
            outs++;
        }

        private void fetch(int place) {
            int i = popContent();
            long row = pop();
            long core = heap.core(row);
            if (!heap.hasPlace(core, i)) {
                failWith(FAIL_PLACE, place);
                return;
            }
            long value = heap.fetch(core, i);
            push(askOutward(row, value));
        }

        private void store(int place) {
            long value = pop();
            int i = popContent();
            long row = pop();
            long core = heap.core(row);
            if (!heap.hasPlace(core, i)) {
                failWith(FAIL_PLACE, place);
                return;
            }
            int many = unwrap(row);
            long written = value;
            for (int w = 0; w < many; w++) {
                written = askInto(wrapping[w], NONE, written);
            }
            if (going) {
                heap.store(core, i, written);
                push(value);
            }
        }

        /** Lists the wrappings around a value, the outermost first: how many. */
        private int unwrap(long value) {
            int many = 0;
            int w = heap.wrappingOf(value);
            for (int i = 0; i < MAX_WRAPPINGS && w != NONE; i++) {
                wrapping[i] = w;
                many++;
                w = heap.wrappingOf(heap.within[w]);
            }
            return many;
        }

        /** What comes out of a wrapped row or function is asked by each wrapping, the innermost first. */
        private long askOutward(long wrapped, long value) {
            long given = value;
            for (int i = unwrap(wrapped) - 1; i >= 0; i--) {
                int w = wrapping[i];
                int from = program.kinds.givesOf(heap.from[w]);
                int to = program.kinds.givesOf(heap.to[w]);
                given = ask(given, from, to, heap.giver[w], heap.taker[w], heap.place[w]);
            }
            return given;
        }

        /** What goes into a wrapped function as its param, or with NONE into a row, is asked the other way round. */
        private long askInto(int w, int param, long value) {
            Kinds kinds = program.kinds;
            int from = param == NONE ? kinds.givesOf(heap.to[w]) : kinds.paramOf(heap.to[w], param);
            int to = param == NONE ? kinds.givesOf(heap.from[w]) : kinds.paramOf(heap.from[w], param);
            return ask(value, from, to, heap.taker[w], heap.giver[w], heap.place[w]);
        }

        private void callWith(int n, int place) {
            int at = top - 1 - n;
            if (at < 0) {
                going = false;
                return;
            }
            int many = unwrap(stack[at]);
            for (int w = 0; w < many; w++) {
                for (int i = 0; i < n; i++) {
                    stack[at + 1 + i] = askInto(wrapping[w], i, stack[at + 1 + i]);
                }
            }
            if (going) {
                enterPart(Heap.contentOf(heap.core(stack[at])), n, place);
            }
        }

        /** What is called stays on the stack below: its wrappings ask what it gives. */
        private void enterPart(int part, int n, int place) {
            if (calls >= MAX_CALLS) {
                failWith(FAIL_DEEP, place);
                return;
            }
            returnTo[calls] = pc;
            calls++;
            for (int i = n - 1; i >= 0; i--) {
                local[slotAt(i)] = pop();
            }
            pc = part >= 0 && part < program.parts ? program.entry[part] : NONE;
        }

        private void leavePart() {
            long value = pop();
            long called = pop();
            push(askOutward(called, value));
            calls = Math.max(0, calls - 1);
            pc = returnTo[calls];
            if (calls == 0) {
                going = false;
            }
        }

        private void workNumbers(int op, int place) {
            int right = popContent();
            if (op == Op.NEGATE) {
                pushNumber(-right);
                return;
            }
            if (op == Op.NOT) {
                pushTruth(right == 0);
                return;
            }
            int left = popContent();
            if (op == Op.LESS || op == Op.SAME) {
                pushTruth(op == Op.LESS ? left < right : left == right);
            } else if (right == 0 && op >= Op.DIVIDE) {
                failWith(FAIL_DIVISION, place);
            } else {
                pushNumber(resultOf(op, left, right));
            }
        }

        private static int resultOf(int op, int left, int right) {
            switch (op) {
                case Op.ADD:
                    return left + right;
                case Op.SUBTRACT:
                    return left - right;
                case Op.MULTIPLY:
                    return left * right;
                case Op.DIVIDE:
                    return right == 0 ? 0 : left / right;
                default:
                    return right == 0 ? 0 : left % right;
            }
        }

        private void workAsking(int here) {
            if (!guarded) {
                askUntold(program.op[here], program.x[here], program.place[here]);
                return;
            }
            int g = program.y[here];
            if (g >= 0 && g < guards.count) {
                push(ask(pop(), guards.from[g], guards.to[g], guards.giver[g], guards.taker[g], guards.place[g]));
            }
        }

        /** Untold runs wrap nothing. */
        private void askUntold(int op, int n, int place) {
            int sort = sortAskedBy(op);
            if (sort != NONE && top > 0 && !isSuch(stack[top - 1], sort, n)) {
                failWith(FAIL_WRONG, place);
            }
        }

        /** What must be such a one in an untold run, too; NONE: nothing is asked. */
        private static int sortAskedBy(int op) {
            switch (op) {
                case Op.ASK_INT:
                    return NUMBER;
                case Op.ASK_FLAG:
                    return TRUTH;
                case Op.ASK_ROW:
                    return ROW;
                case Op.ASK_CALLED:
                case Op.ASK_NAMED:
                    return FUNCTION;
                default:
                    return NONE;
            }
        }

        private boolean isSuch(long core, int sort, int n) {
            return Heap.sortOf(core) == sort && (sort != FUNCTION || program.paramsOf(Heap.contentOf(core)) == n);
        }

        /** Asks a value; an asking that goes on with another kind goes round once more. */
        private long ask(long value, int a, int b, int giver, int taker, int place) {
            int from = a;
            int to = b;
            for (int i = 0; i < 3 && going && from != to; i++) {
                count(giver, taker);
                if (to == Kinds.ANY) {
                    to = program.kinds.withAnys(from);
                    if (to == Kinds.ANY) {
                        return value;
                    }
                } else if (from == Kinds.ANY) {
                    if (!isSuch(heap.core(value), program.kinds.sortOf(to), program.kinds.takenBy(to))) {
                        blamed = giver;
                        failWith(FAIL_BLAME, place);
                    }
                    from = program.kinds.withAnys(to);
                    if (from == Kinds.ANY) {
                        return value;
                    }
                } else {
                    return wrap(value, from, to, giver, taker, place);
                }
            }
            return value;
        }

        private void count(int giver, int taker) {
            int at = giver * MAX_PARTS + taker;
            if (at >= 0 && at < askings.length) {
                askings[at]++;
            }
        }

        private long wrap(long value, int from, int to, int giver, int taker, int place) {
            int outer = heap.wrappingOf(value);
            int around = outer == NONE ? 0 : heap.around[outer];
            if (around >= MAX_WRAPPINGS || !heap.hasRoom(0)) {
                failWith(FAIL_FULL, place);
                return value;
            }
            int w = heap.wrappings;
            heap.wrappings++;
            heap.around[w] = around + 1;
            heap.within[w] = value;
            heap.from[w] = from;
            heap.to[w] = to;
            heap.giver[w] = giver;
            heap.taker[w] = taker;
            heap.place[w] = place;
            return Heap.valueOf(WRAPPED, w);
        }
    }
}
