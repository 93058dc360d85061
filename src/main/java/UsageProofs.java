import java.util.Arrays;

/** A small lazy language, with rows that foretell how often each thing is needed, and runs that count it. */
public final class UsageProofs {
    public static final int NONE = -1, BAD = -2, FULL = -4;

    private static final int MOST_BYTES = 2000;
    private static final int MOST_DEFS = 24;
    private static final int MOST_PARAMETERS = 4;
    private static final int MOST_THINGS = 200;
    private static final int MOST_OPEN = 40;
    private static final int MOST_STEPS = 10000;
    private static final int MOST_WAITS = 400;
    private static final int LONGEST_NAME = 8;
    private static final int LONGEST_NUMBER = 9;

    // A byte begins at most one token, and a token makes at most itself and one application.
    private static final int MOST_NODES = 2 * MOST_BYTES;
    // Parameters, and two names for each split that is open.
    private static final int MOST_SCOPE = MOST_PARAMETERS + 2 * MOST_OPEN;
    // An if holds two layers at once, below the one that everything stands on.
    private static final int MOST_LAYERS = 2 * MOST_OPEN + 2;
    // A node waits as one task; the four more of an if are fewer than the bytes of its words.
    private static final int MOST_TASKS = MOST_NODES;
    private static final int MOST_TASK_TURNS = 100000;
    // Each use of a row can rise four times, one change a round, and one round changes nothing.
    private static final int MOST_ROUNDS = 1000;
    private static final int ROW_USES = MOST_DEFS * 2 * MOST_PARAMETERS;

    // A call of a function that was given three arguments before binds four in two steps.
    private static final int MOST_BINDINGS = 2 * MOST_STEPS + 100;
    // A pair makes two cells, but what wants the pair took a step as well.
    private static final int MOST_CELLS = MOST_STEPS + 100;
    private static final int MOST_FUNCTIONS = MOST_STEPS + 100;
    private static final int MOST_MACHINE_TURNS = 100000;

    // Tokens that are signs have the sign's own byte, so these lie above all bytes.
    private static final int TOKEN_END = 256;
    private static final int TOKEN_BROKEN = 257;
    private static final int TOKEN_NAME = 258;
    private static final int TOKEN_NUMBER = 259;
    private static final int TOKEN_LET = 260;
    private static final int TOKEN_IN = 261;
    private static final int TOKEN_IF = 262;
    private static final int TOKEN_THEN = 263;
    private static final int TOKEN_ELSE = 264;
    private static final int TOKEN_SPLIT = 265;
    private static final int TOKEN_AS = 266;

    // Names are packed, a byte a letter, so that two of them are compared as numbers.
    private static final long WORD_LET = 0x6c6574L;
    private static final long WORD_IN = 0x696eL;
    private static final long WORD_IF = 0x6966L;
    private static final long WORD_THEN = 0x7468656eL;
    private static final long WORD_ELSE = 0x656c7365L;
    private static final long WORD_SPLIT = 0x73706c6974L;
    private static final long WORD_AS = 0x6173L;

    private static final int FAULT_TOKEN = 1;
    private static final int FAULT_GRAMMAR = 2;
    private static final int FAULT_MEANING = 3;
    private static final int FAULT_TWICE = 4;
    private static final int FAULT_MANY = 5;

    private static final int THING_PARAMETER = 0;
    private static final int THING_LET = 1;
    private static final int THING_SPLIT = 2;
    private static final int THING_BOUND = 3;
    private static final int THING_LAMBDA = 4;

    private static final int NODE_NUMBER = 0;
    private static final int NODE_THING = 1;
    private static final int NODE_DEF = 2;
    private static final int NODE_PAIR = 3;
    private static final int NODE_LAMBDA = 4;
    private static final int NODE_LET = 5;
    private static final int NODE_IF = 6;
    private static final int NODE_SPLIT = 7;
    private static final int NODE_OPERATOR = 8;
    private static final int NODE_APPLICATION = 9;

    private static final int DEMAND_ANY = 4;
    // A use is its count times eight and its demand; none is 0.
    private static final int USE_NONE = 0;
    private static final int USE_ONE = 8;
    private static final int USE_MANY = 16;
    private static final int USE_MANY_ANY = USE_MANY + DEMAND_ANY;

    private static final int TASK_VISIT = 0;
    private static final int TASK_ARGUMENT = 1;
    private static final int TASK_AFTER_LET = 2;
    private static final int TASK_AFTER_SPLIT = 3;
    private static final int TASK_AFTER_LAMBDA = 4;
    private static final int TASK_AFTER_CALL = 5;
    private static final int TASK_OPEN = 6;
    private static final int TASK_EITHER = 7;
    private static final int TASK_MANY = 8;

    // The kinds of values are the outcomes that they lead to.
    private static final int RUNNING = -1;
    private static final int NUMBER = 0;
    private static final int FUNCTION = 1;
    private static final int PAIR = 2;
    private static final int KIND = 3;
    private static final int OUT = 4;
    private static final int DEEP = 5;
    private static final int WRONG = 6;

    private static final int WAIT_IF = 0;
    private static final int WAIT_SPLIT = 1;
    private static final int WAIT_LEFT = 2;
    private static final int WAIT_RIGHT = 3;
    private static final int WAIT_APPLICATION = 4;
    private static final int WAIT_NEED = 5;

    private static final int MODE_NOT_KEPT = 1;
    private static final int MODE_NOT_GIVEN = 2;

    private static final int COUNT_STEPS = 0;
    private static final int COUNT_NEEDS = 1;
    private static final int COUNT_CELLS = 2;
    private static final int COUNT_CELL_RUNS = 3;
    private static final int COUNT_KEPT = 4;
    private static final int COUNT_WAITED = 5;
    private static final int COUNT_CALLS = 6;
    private static final int COUNTS = 7;

    private final Text text;
    private final Program spare;
    private final Program program;
    /** USES of THINGS; right only behind rows.refreshUses(). */
    private final int[] uses;
    private final Parser parser;
    private final Rows rows;
    private final Machine machine;
    private final int[] arguments;
    private int faultPlace;
    private int rounds;

    public UsageProofs() {
        Text typed = new Text();
        Program fresh = new Program();
        Program current = new Program();
        int[] foretold = new int[MOST_THINGS];
        text = typed;
        spare = fresh;
        program = current;
        uses = foretold;
        parser = new Parser(typed, fresh);
        rows = new Rows(current, foretold);
        machine = new Machine(current, foretold);
        arguments = new int[MOST_PARAMETERS];
        faultPlace = NONE;
        rounds = 0;
    }

    public int type(long v, int n) {
        if (n < 0 || n > 8) {
            return BAD;
        }
        if (n == 0) {
            text.clear();
            return 0;
        }
        if (text.length + n > MOST_BYTES) {
            return FULL;
        }
        text.append(v, n);
        return text.length;
    }

    public int read() {
        int fault = parser.parse();
        faultPlace = parser.faultPlace;
        text.clear();
        if (fault != 0) {
            return -10 - fault;
        }
        program.copyFrom(spare);
        rows.clear();
        machine.clear();
        rounds = 0;
        return program.defs;
    }

    public int place() {
        return faultPlace;
    }

    public int def(int d, int what) {
        if (!isDef(d)) {
            return NONE;
        }
        switch (what) {
            case 0: return at(program.defSizes, d);
            case 1: return at(program.defPlaces, d);
            default: return BAD;
        }
    }

    public int thing(int t, int what) {
        if (t < 0 || t >= program.things) {
            return NONE;
        }
        switch (what) {
            case 0: return at(program.thingKinds, t);
            case 1: return at(program.thingDefs, t);
            case 2: return at(program.thingPlaces, t);
            case 3:
                rows.refreshUses();
                return at(uses, t);
            case 4: return at(machine.counted, t);
            default: return BAD;
        }
    }

    public int analyse() {
        rounds = 0;
        boolean changing = true;
        for (int i = 0; i < MOST_ROUNDS && changing; i++) {
            rows.foretellRound();
            changing = rows.firstChange() >= 0;
            rows.takeRound();
            rounds++;
        }
        return rounds;
    }

    public int row(int d, int under, int i, int what) {
        if (!isParameter(d, i)) {
            return NONE;
        }
        if (under < 0 || under > 1 || what < 0 || what > 1) {
            return BAD;
        }
        int use = rows.useOf(d, under, i);
        return what == 0 ? use >> 3 : use & 7;
    }

    public int plant(int d, int under, int i, int count, int demand) {
        if (!isParameter(d, i)) {
            return NONE;
        }
        if (under < 0 || under > 1 || count < 0 || count > 2) {
            return BAD;
        }
        if (demand < 0 || demand > DEMAND_ANY || (count == 0 && demand != 0)) {
            return BAD;
        }
        rows.setUse(d, under, i, count * USE_ONE + demand);
        return 1;
    }

    public int check() {
        rows.foretellRound();
        int changed = rows.firstChange();
        return changed < 0 ? 1 : -100 - changed;
    }

    public int argument(int i, int v) {
        if (i < 0 || i >= MOST_PARAMETERS) {
            return NONE;
        }
        int before = at(arguments, i);
        put(arguments, i, v);
        return before;
    }

    public int run(int d, int steps, int mode) {
        if (!isDef(d)) {
            return NONE;
        }
        if (steps < 0 || steps > MOST_STEPS || mode < 0 || mode > 3) {
            return BAD;
        }
        if (mode != 0) {
            rows.refreshUses();
        }
        return machine.execute(d, steps, mode, arguments);
    }

    public int value() {
        return machine.result;
    }

    public int count(int what) {
        if (what < 0 || what >= COUNTS) {
            return BAD;
        }
        return at(machine.counts, what);
    }

    public int told(int what) {
        switch (what) {
            case 0: return text.length;
            case 1: return program.defs;
            case 2: return program.things;
            case 3: return rounds;
            default: return BAD;
        }
    }

    private boolean isDef(int d) {
        return d >= 0 && d < program.defs;
    }

    private boolean isParameter(int d, int i) {
        return isDef(d) && i >= 0 && i < at(program.defSizes, d);
    }

    private static int at(int[] row, int i) {
        return i >= 0 && i < row.length ? row[i] : 0;
    }

    private static void put(int[] row, int i, int v) {
        if (i >= 0 && i < row.length) {
            row[i] = v;
        }
    }

    /** THE TEXT, and the token of it that is looked at. */
    private static final class Text {
        int length;
        int token;
        int start;
        long name;
        int number;
        private final byte[] bytes = new byte[MOST_BYTES];
        private int next;

        void clear() {
            length = 0;
        }

        void append(long v, int n) {
            for (int i = n - 1; i >= 0 && length < bytes.length; i--) {
                bytes[length] = (byte) (v >>> (8 * i));
                length++;
            }
        }

        void scanFrom(int from) {
            next = from;
            scan();
        }

        void scan() {
            while (next < length && isBlank(byteAt(next))) {
                next++;
            }
            start = next;
            if (start >= length) {
                token = TOKEN_END;
                return;
            }
            int first = byteAt(start);
            if (isLetter(first)) {
                scanName();
            } else if (isFigure(first)) {
                scanNumber();
            } else {
                token = isSign(first) ? first : TOKEN_BROKEN;
                next++;
            }
        }

        private void scanName() {
            name = 0;
            while (next < length && (isLetter(byteAt(next)) || isFigure(byteAt(next)))) {
                name = name << 8 | byteAt(next);
                next++;
            }
            token = next - start > LONGEST_NAME ? TOKEN_BROKEN : wordOrName();
        }

        private void scanNumber() {
            number = 0;
            while (next < length && isFigure(byteAt(next))) {
                number = number * 10 + byteAt(next) - '0';
                next++;
            }
            token = next - start > LONGEST_NUMBER ? TOKEN_BROKEN : TOKEN_NUMBER;
        }

        private int wordOrName() {
            if (name == WORD_LET) {
                return TOKEN_LET;
            }
            if (name == WORD_IN) {
                return TOKEN_IN;
            }
            if (name == WORD_IF) {
                return TOKEN_IF;
            }
            if (name == WORD_THEN) {
                return TOKEN_THEN;
            }
            if (name == WORD_ELSE) {
                return TOKEN_ELSE;
            }
            if (name == WORD_SPLIT) {
                return TOKEN_SPLIT;
            }
            return name == WORD_AS ? TOKEN_AS : TOKEN_NAME;
        }

        private int byteAt(int i) {
            return i >= 0 && i < bytes.length ? bytes[i] & 255 : 0;
        }

        private static boolean isBlank(int c) {
            return c == ' ' || c == '\n';
        }

        private static boolean isLetter(int c) {
            return c >= 'a' && c <= 'z';
        }

        private static boolean isFigure(int c) {
            return c >= '0' && c <= '9';
        }

        private static boolean isSign(int c) {
            switch (c) {
                case '(':
                case ')':
                case ',':
                case '=':
                case ';':
                case '\\':
                case '.':
                case '+':
                case '-':
                case '*':
                case '<':
                    return true;
                default:
                    return false;
            }
        }
    }

    /** DEFS, THINGS and NODES of a text that was read. */
    private static final class Program {
        int defs;
        int things;
        int nodes;
        final long[] defNames = new long[MOST_DEFS];
        final int[] defPlaces = new int[MOST_DEFS];
        final int[] defSizes = new int[MOST_DEFS];
        final int[] defThings = new int[MOST_DEFS];
        final int[] defBodies = new int[MOST_DEFS];
        final int[] thingKinds = new int[MOST_THINGS];
        final int[] thingDefs = new int[MOST_THINGS];
        final int[] thingPlaces = new int[MOST_THINGS];
        final int[] kinds = new int[MOST_NODES];
        final int[] marks = new int[MOST_NODES];
        final int[] firsts = new int[MOST_NODES];
        final int[] seconds = new int[MOST_NODES];
        final int[] thirds = new int[MOST_NODES];

        void clear() {
            defs = 0;
            things = 0;
            nodes = 0;
        }

        int addDef(long name, int from) {
            if (defs >= MOST_DEFS) {
                return NONE;
            }
            defNames[defs] = name;
            defPlaces[defs] = from;
            defSizes[defs] = 0;
            defThings[defs] = things;
            defBodies[defs] = 0;
            defs++;
            return defs - 1;
        }

        int addThing(int kind, int from) {
            if (things >= MOST_THINGS) {
                return NONE;
            }
            thingKinds[things] = kind;
            thingDefs[things] = defs - 1;
            thingPlaces[things] = from;
            things++;
            return things - 1;
        }

        int addNode(int kind, int mark, int first, int second, int third) {
            if (nodes >= MOST_NODES) {
                return NONE;
            }
            kinds[nodes] = kind;
            marks[nodes] = mark;
            firsts[nodes] = first;
            seconds[nodes] = second;
            thirds[nodes] = third;
            nodes++;
            return nodes - 1;
        }

        int findDef(long name) {
            for (int d = 0; d < defs && d < MOST_DEFS; d++) {
                if (defNames[d] == name) {
                    return d;
                }
            }
            return NONE;
        }

        /** The first THING that is not of the DEF or one before it. */
        int thingsEnd(int d) {
            return d + 1 < defs ? at(defThings, d + 1) : things;
        }

        /** All but the NAMES of DEFS, which nothing asks for behind the parser. */
        void copyFrom(Program other) {
            defs = other.defs;
            things = other.things;
            nodes = other.nodes;
            copyRow(other.defPlaces, defPlaces, defs);
            copyRow(other.defSizes, defSizes, defs);
            copyRow(other.defThings, defThings, defs);
            copyRow(other.defBodies, defBodies, defs);
            copyRow(other.thingKinds, thingKinds, things);
            copyRow(other.thingDefs, thingDefs, things);
            copyRow(other.thingPlaces, thingPlaces, things);
            copyRow(other.kinds, kinds, nodes);
            copyRow(other.marks, marks, nodes);
            copyRow(other.firsts, firsts, nodes);
            copyRow(other.seconds, seconds, nodes);
            copyRow(other.thirds, thirds, nodes);
        }

        private static void copyRow(int[] from, int[] to, int size) {
            int most = Math.min(from.length, to.length);
            System.arraycopy(from, 0, to, 0, Math.max(0, Math.min(size, most)));
        }
    }

    /**
     * Makes a PROGRAM of THE TEXT. A token is tested for every fault before the next one is scanned;
     * from the first fault on the token stays broken, which nothing wants, so that all calls end.
     */
    private static final class Parser {
        int faultPlace;
        private int fault;
        private int open;
        private int scope;
        private final Text text;
        private final Program made;
        private final long[] scopeNames = new long[MOST_SCOPE];
        private final int[] scopeThings = new int[MOST_SCOPE];

        Parser(Text source, Program target) {
            text = source;
            made = target;
        }

        /** The FAULT, or 0. */
        int parse() {
            made.clear();
            fault = 0;
            faultPlace = NONE;
            open = 0;
            scope = 0;
            text.scanFrom(0);
            refuseBroken();
            for (int i = 0; i <= MOST_BYTES && fault == 0 && text.token != TOKEN_END; i++) {
                parseDef();
            }
            if (fault == 0) {
                resolveDefs();
            }
            return fault;
        }

        private void fail(int number) {
            if (fault == 0) {
                fault = number;
                faultPlace = text.start;
            }
            text.token = TOKEN_BROKEN;
        }

        private void refuseBroken() {
            if (text.token == TOKEN_BROKEN) {
                fail(FAULT_TOKEN);
            }
        }

        private void advance() {
            if (fault == 0) {
                text.scan();
                refuseBroken();
            }
        }

        private void expect(int token) {
            if (text.token == token) {
                advance();
            } else {
                fail(FAULT_GRAMMAR);
            }
        }

        private void parseDef() {
            if (text.token != TOKEN_NAME) {
                fail(FAULT_GRAMMAR);
                return;
            }
            if (made.findDef(text.name) >= 0) {
                fail(FAULT_TWICE);
                return;
            }
            int d = made.addDef(text.name, text.start);
            if (d < 0) {
                fail(FAULT_MANY);
                return;
            }
            advance();
            put(made.defSizes, d, parseParameters());
            expect('=');
            put(made.defBodies, d, parseExpression());
            expect(';');
            scope = 0;
        }

        private int parseParameters() {
            int size = 0;
            for (int i = 0; i <= MOST_PARAMETERS && text.token == TOKEN_NAME; i++) {
                if (findInScope(text.name) >= 0) {
                    fail(FAULT_TWICE);
                } else if (size >= MOST_PARAMETERS) {
                    fail(FAULT_MANY);
                } else {
                    bring(text.name, newThing(THING_PARAMETER));
                    size++;
                    advance();
                }
            }
            return size;
        }

        private int parseExpression() {
            switch (text.token) {
                case '\\': return parseLambda();
                case TOKEN_LET: return parseLet();
                case TOKEN_IF: return parseIf();
                case TOKEN_SPLIT: return parseSplit();
                default: break;
            }
            int left = parseSum();
            if (text.token != '<') {
                return left;
            }
            advance();
            int right = parseSum();
            return newNode(NODE_OPERATOR, '<', left, right);
        }

        private int parseLambda() {
            int outside = scope;
            enter();
            int slash = newThing(THING_LAMBDA);
            advance();
            long name = text.name;
            int bound = nameThing(THING_BOUND);
            expect('.');
            bring(name, bound);
            int body = parseExpression();
            leave(outside);
            return newNode(NODE_LAMBDA, slash, body, NONE);
        }

        private int parseLet() {
            int outside = scope;
            enter();
            advance();
            long name = text.name;
            int bound = nameThing(THING_LET);
            expect('=');
            int first = parseExpression();
            expect(TOKEN_IN);
            bring(name, bound);
            int second = parseExpression();
            leave(outside);
            return newNode(NODE_LET, bound, first, second);
        }

        private int parseIf() {
            enter();
            advance();
            int first = parseExpression();
            expect(TOKEN_THEN);
            int second = parseExpression();
            expect(TOKEN_ELSE);
            int third = parseExpression();
            leave(scope);
            return fault != 0 ? NONE : made.addNode(NODE_IF, NONE, first, second, third);
        }

        private int parseSplit() {
            int outside = scope;
            enter();
            advance();
            int first = parseExpression();
            expect(TOKEN_AS);
            long left = text.name;
            int bound = nameThing(THING_SPLIT);
            expect(',');
            long right = text.name;
            secondName(left);
            expect(TOKEN_IN);
            bring(left, bound);
            bring(right, bound + 1);
            int second = parseExpression();
            leave(outside);
            return newNode(NODE_SPLIT, bound, first, second);
        }

        /** Of one token the least FAULT counts: that both NAMES are alike comes ahead of one THING too many. */
        private void secondName(long first) {
            if (text.token == TOKEN_NAME && text.name == first) {
                fail(FAULT_TWICE);
            }
            nameThing(THING_SPLIT);
        }

        private int nameThing(int kind) {
            if (text.token != TOKEN_NAME) {
                fail(FAULT_GRAMMAR);
                return NONE;
            }
            int bound = newThing(kind);
            advance();
            return bound;
        }

        private int parseSum() {
            int left = parseProduct();
            for (int i = 0; i <= MOST_BYTES && (text.token == '+' || text.token == '-'); i++) {
                int sign = text.token;
                advance();
                int right = parseProduct();
                left = newNode(NODE_OPERATOR, sign, left, right);
            }
            return left;
        }

        private int parseProduct() {
            int left = parseApplication();
            for (int i = 0; i <= MOST_BYTES && text.token == '*'; i++) {
                advance();
                int right = parseApplication();
                left = newNode(NODE_OPERATOR, '*', left, right);
            }
            return left;
        }

        private int parseApplication() {
            int left = parseBasic();
            for (int i = 0; i <= MOST_BYTES && beginsBasic(); i++) {
                int right = parseBasic();
                left = newNode(NODE_APPLICATION, NONE, left, right);
            }
            return left;
        }

        private boolean beginsBasic() {
            return text.token == TOKEN_NAME || text.token == TOKEN_NUMBER || text.token == '(';
        }

        private int parseBasic() {
            int leaf;
            switch (text.token) {
                case '(':
                    return parseBracket();
                case TOKEN_NUMBER:
                    leaf = newNode(NODE_NUMBER, text.number, NONE, NONE);
                    break;
                case TOKEN_NAME:
                    leaf = newNameNode();
                    break;
                default:
                    fail(FAULT_GRAMMAR);
                    return NONE;
            }
            advance();
            return leaf;
        }

        private int parseBracket() {
            enter();
            advance();
            int left = parseExpression();
            int whole = left;
            if (text.token == ',') {
                advance();
                int right = parseExpression();
                whole = newNode(NODE_PAIR, NONE, left, right);
            }
            leave(scope);
            expect(')');
            return whole;
        }

        /** A NAME that is not in scope keeps its place, since its DEF may stand behind it. */
        private int newNameNode() {
            int found = findInScope(text.name);
            if (found >= 0) {
                return newNode(NODE_THING, at(scopeThings, found), NONE, NONE);
            }
            return newNode(NODE_DEF, NONE, text.start, NONE);
        }

        private void resolveDefs() {
            for (int i = 0; i < made.nodes && fault == 0; i++) {
                if (at(made.kinds, i) == NODE_DEF) {
                    text.scanFrom(at(made.firsts, i));
                    int d = made.findDef(text.name);
                    if (d < 0) {
                        fail(FAULT_MEANING);
                    }
                    put(made.marks, i, d);
                }
            }
        }

        private void enter() {
            open++;
            if (open > MOST_OPEN) {
                fail(FAULT_MANY);
            }
        }

        private void leave(int outside) {
            open--;
            scope = outside;
        }

        private int newThing(int kind) {
            if (fault != 0) {
                return NONE;
            }
            int fresh = made.addThing(kind, text.start);
            if (fresh < 0) {
                fail(FAULT_MANY);
            }
            return fresh;
        }

        private int newNode(int kind, int mark, int first, int second) {
            return fault != 0 ? NONE : made.addNode(kind, mark, first, second, NONE);
        }

        private void bring(long name, int bound) {
            if (fault == 0 && scope < MOST_SCOPE) {
                scopeNames[scope] = name;
                scopeThings[scope] = bound;
                scope++;
            }
        }

        private int findInScope(long name) {
            for (int i = Math.min(scope, MOST_SCOPE) - 1; i >= 0; i--) {
                if (scopeNames[i] == name) {
                    return i;
                }
            }
            return NONE;
        }
    }

    /** USES of the THINGS of one DEF, in layers: an if and a \ bring theirs together before others join. */
    private static final class Layers {
        private final int[] uses = new int[MOST_LAYERS * MOST_THINGS];
        private int top;
        private int low;
        private int high;

        void start(int from, int end) {
            top = -1;
            low = from;
            high = end;
            openLayer();
        }

        void openLayer() {
            top++;
            for (int t = low; t < high; t++) {
                put(uses, indexOf(top, t), USE_NONE);
            }
        }

        int useOf(int t) {
            return at(uses, indexOf(top, t));
        }

        void add(int t, int use) {
            int i = indexOf(top, t);
            put(uses, i, both(at(uses, i), use));
        }

        int take(int t) {
            int i = indexOf(top, t);
            int use = at(uses, i);
            put(uses, i, USE_NONE);
            return use;
        }

        void closeEither() {
            for (int t = low; t < high; t++) {
                int use = either(at(uses, indexOf(top, t)), at(uses, indexOf(top - 1, t)));
                join(top - 2, t, use);
            }
            top -= 2;
        }

        void closeMany() {
            for (int t = low; t < high; t++) {
                join(top - 1, t, many(at(uses, indexOf(top, t))));
            }
            top--;
        }

        private void join(int layer, int t, int use) {
            int i = indexOf(layer, t);
            put(uses, i, both(at(uses, i), use));
        }

        private static int indexOf(int layer, int t) {
            return layer * MOST_THINGS + t;
        }

        static int both(int a, int b) {
            if (a == USE_NONE || b == USE_NONE) {
                return a + b;
            }
            return USE_MANY + ((a & 7) == 0 && (b & 7) == 0 ? 0 : DEMAND_ANY);
        }

        static int either(int a, int b) {
            if (a == USE_NONE || b == USE_NONE) {
                return a + b;
            }
            int demandA = a & 7;
            int demandB = b & 7;
            int demand = DEMAND_ANY;
            if (demandA == 0 || demandA == demandB) {
                demand = demandB;
            } else if (demandB == 0) {
                demand = demandA;
            }
            return Math.max(a >> 3, b >> 3) * USE_ONE + demand;
        }

        static int many(int a) {
            if (a == USE_NONE) {
                return USE_NONE;
            }
            return USE_MANY + ((a & 7) == 0 ? 0 : DEMAND_ANY);
        }
    }

    /** Foretells the E of a DEF; tasks wait on a stack, since an E may be deeper than calls may be. */
    private static final class Foreteller {
        final Layers layers = new Layers();
        /** The greatest COUNT with which each THING was taken out; of a \ the most CALLS. */
        final int[] seen = new int[MOST_THINGS];
        private final Program program;
        private final int[] rowUses;
        private final int[] tasks = new int[MOST_TASKS];
        private final int[] taskNodes = new int[MOST_TASKS];
        private final int[] taskData = new int[MOST_TASKS];
        private int waiting;

        Foreteller(Program source, int[] uses) {
            program = source;
            rowUses = uses;
        }

        void foretell(int d, int demand) {
            layers.start(at(program.defThings, d), program.thingsEnd(d));
            waiting = 0;
            push(TASK_VISIT, at(program.defBodies, d), demand);
            for (int i = 0; i < MOST_TASK_TURNS && waiting > 0; i++) {
                waiting--;
                perform(at(tasks, waiting), at(taskNodes, waiting), at(taskData, waiting));
            }
        }

        private void push(int task, int node, int datum) {
            if (waiting >= 0 && waiting < MOST_TASKS) {
                tasks[waiting] = task;
                taskNodes[waiting] = node;
                taskData[waiting] = datum;
                waiting++;
            }
        }

        private void perform(int task, int node, int datum) {
            int mark = at(program.marks, node);
            switch (task) {
                case TASK_VISIT:
                    visit(node, datum);
                    break;
                case TASK_ARGUMENT:
                    foretellArgument(node, datum);
                    break;
                case TASK_AFTER_LET:
                    afterLet(node, takeOut(mark));
                    break;
                case TASK_AFTER_SPLIT:
                    int used = takeOut(mark) + takeOut(mark + 1);
                    push(TASK_VISIT, at(program.firsts, node), used == 0 ? 0 : DEMAND_ANY);
                    break;
                case TASK_AFTER_LAMBDA:
                    takeOut(mark + 1);
                    break;
                case TASK_AFTER_CALL:
                    int slash = at(program.marks, at(program.firsts, node));
                    foretellArgument(at(program.seconds, node), takeOut(slash + 1));
                    break;
                case TASK_OPEN:
                    layers.openLayer();
                    break;
                case TASK_EITHER:
                    layers.closeEither();
                    break;
                default:
                    layers.closeMany();
                    break;
            }
        }

        private void visit(int node, int demand) {
            switch (at(program.kinds, node)) {
                case NODE_THING:
                    layers.add(at(program.marks, node), USE_ONE + demand);
                    break;
                case NODE_PAIR:
                    visitPair(node, demand);
                    break;
                case NODE_LAMBDA:
                    visitLambda(node, demand);
                    break;
                case NODE_LET:
                    push(TASK_AFTER_LET, node, 0);
                    push(TASK_VISIT, at(program.seconds, node), demand);
                    break;
                case NODE_IF:
                    visitIf(node, demand);
                    break;
                case NODE_SPLIT:
                    push(TASK_AFTER_SPLIT, node, 0);
                    push(TASK_VISIT, at(program.seconds, node), demand);
                    break;
                case NODE_OPERATOR:
                    push(TASK_VISIT, at(program.firsts, node), 0);
                    push(TASK_VISIT, at(program.seconds, node), 0);
                    break;
                case NODE_APPLICATION:
                    visitApplication(node, demand);
                    break;
                default:
                    break;
            }
        }

        private void foretellArgument(int node, int use) {
            if (use == USE_NONE) {
                return;
            }
            if (at(program.kinds, node) == NODE_THING) {
                layers.add(at(program.marks, node), use);
            } else {
                push(TASK_VISIT, node, use & 7);
            }
        }

        private void afterLet(int node, int use) {
            if (use != USE_NONE) {
                push(TASK_VISIT, at(program.firsts, node), use & 7);
            }
        }

        private void visitPair(int node, int demand) {
            if (demand != 0) {
                push(TASK_ARGUMENT, at(program.firsts, node), USE_MANY_ANY);
                push(TASK_ARGUMENT, at(program.seconds, node), USE_MANY_ANY);
            }
        }

        private void visitLambda(int node, int demand) {
            if (demand == 0) {
                return;
            }
            boolean any = demand == DEMAND_ANY;
            recordCalls(node, any ? 2 : 1);
            if (any) {
                layers.openLayer();
                push(TASK_MANY, node, 0);
            }
            push(TASK_AFTER_LAMBDA, node, 0);
            push(TASK_VISIT, at(program.firsts, node), any ? DEMAND_ANY : demand - 1);
        }

        private void visitIf(int node, int demand) {
            push(TASK_EITHER, node, 0);
            push(TASK_VISIT, at(program.thirds, node), demand);
            push(TASK_OPEN, node, 0);
            push(TASK_VISIT, at(program.seconds, node), demand);
            push(TASK_OPEN, node, 0);
            push(TASK_VISIT, at(program.firsts, node), 0);
        }

        private void visitApplication(int node, int demand) {
            int size = 0;
            int inner = node;
            int head = node;
            for (int i = 0; i < MOST_NODES && at(program.kinds, head) == NODE_APPLICATION; i++) {
                size++;
                inner = head;
                head = at(program.firsts, head);
            }
            switch (at(program.kinds, head)) {
                case NODE_DEF:
                    applyDef(node, at(program.marks, head), size, demand);
                    break;
                case NODE_LAMBDA:
                    recordCalls(head, 1);
                    push(TASK_AFTER_CALL, inner, 0);
                    push(TASK_VISIT, at(program.firsts, head), size == 1 ? demand : headDemand(size - 1, demand));
                    pushArguments(node, size - 1);
                    break;
                default:
                    push(TASK_VISIT, head, headDemand(size, demand));
                    pushArguments(node, size);
                    break;
            }
        }

        private static int headDemand(int size, int demand) {
            return demand == 0 && size <= 3 ? size : DEMAND_ANY;
        }

        /** The last ARGUMENTS of an APPLICATION, so many of them, all under (2, 4). */
        private void pushArguments(int node, int size) {
            int application = node;
            for (int i = 0; i < size; i++) {
                push(TASK_ARGUMENT, at(program.seconds, application), USE_MANY_ANY);
                application = at(program.firsts, application);
            }
        }

        private void applyDef(int node, int d, int size, int demand) {
            int wanted = at(program.defSizes, d);
            if (size < wanted && demand == 0) {
                return;
            }
            int under = size == wanted && demand == 0 ? 0 : 1;
            int application = node;
            for (int i = size - 1; i >= 0; i--) {
                boolean byRow = size >= wanted && i < wanted;
                int use = byRow ? at(rowUses, rowIndex(d, under, i)) : USE_MANY_ANY;
                push(TASK_ARGUMENT, at(program.seconds, application), use);
                application = at(program.firsts, application);
            }
        }

        private int takeOut(int t) {
            int use = layers.take(t);
            put(seen, t, Math.max(at(seen, t), use >> 3));
            return use;
        }

        private void recordCalls(int lambda, int calls) {
            int slash = at(program.marks, lambda);
            put(seen, slash, Math.max(at(seen, slash), calls));
        }

        static int rowIndex(int d, int under, int i) {
            return (d * 2 + under) * MOST_PARAMETERS + i;
        }
    }

    /** THE ROWS, what a ROUND would make of them, and the USES of THINGS by them. */
    private static final class Rows {
        private final Program program;
        private final int[] uses;
        private final int[] now;
        private final int[] next;
        private final Foreteller foreteller;
        private boolean stale;

        Rows(Program source, int[] foretold) {
            int[] rowUses = new int[ROW_USES];
            program = source;
            uses = foretold;
            now = rowUses;
            next = new int[ROW_USES];
            foreteller = new Foreteller(source, rowUses);
            stale = true;
        }

        void clear() {
            Arrays.fill(now, USE_NONE);
            stale = true;
        }

        int useOf(int d, int under, int i) {
            return at(now, Foreteller.rowIndex(d, under, i));
        }

        void setUse(int d, int under, int i, int use) {
            put(now, Foreteller.rowIndex(d, under, i), use);
            stale = true;
        }

        void foretellRound() {
            for (int r = 0; r < 2 * program.defs; r++) {
                int d = r / 2;
                int under = r % 2;
                foreteller.foretell(d, under == 0 ? 0 : DEMAND_ANY);
                int first = at(program.defThings, d);
                int size = at(program.defSizes, d);
                for (int i = 0; i < size; i++) {
                    int index = Foreteller.rowIndex(d, under, i);
                    put(next, index, Layers.either(at(now, index), foreteller.layers.useOf(first + i)));
                }
            }
        }

        /** The first ROW (twice the DEF and under) that the foretold ROUND changes, or NONE. */
        int firstChange() {
            for (int d = 0; d < program.defs; d++) {
                for (int under = 0; under < 2; under++) {
                    if (changes(d, under)) {
                        return d * 2 + under;
                    }
                }
            }
            return NONE;
        }

        private boolean changes(int d, int under) {
            int size = at(program.defSizes, d);
            for (int i = 0; i < size; i++) {
                int index = Foreteller.rowIndex(d, under, i);
                if (at(now, index) != at(next, index)) {
                    return true;
                }
            }
            return false;
        }

        void takeRound() {
            for (int d = 0; d < program.defs; d++) {
                int size = at(program.defSizes, d);
                for (int i = 0; i < size; i++) {
                    takeUse(Foreteller.rowIndex(d, 0, i));
                    takeUse(Foreteller.rowIndex(d, 1, i));
                }
            }
            stale = true;
        }

        private void takeUse(int index) {
            put(now, index, at(next, index));
        }

        void refreshUses() {
            if (!stale) {
                return;
            }
            stale = false;
            Arrays.fill(foreteller.seen, 0);
            for (int d = 0; d < program.defs; d++) {
                foreteller.foretell(d, 0);
                foreteller.foretell(d, DEMAND_ANY);
            }
            for (int t = 0; t < program.things; t++) {
                boolean parameter = at(program.thingKinds, t) == THING_PARAMETER;
                put(uses, t, parameter ? parameterUses(t) : at(foreteller.seen, t));
            }
        }

        private int parameterUses(int t) {
            int d = at(program.thingDefs, t);
            int i = t - at(program.defThings, d);
            return Math.max(useOf(d, 0, i) >> 3, useOf(d, 1, i) >> 3);
        }
    }

    /** A RUN: a NODE is evaluated, or a value is handed back to what waits for it, till there is an OUTCOME. */
    private static final class Machine {
        final int[] counts = new int[COUNTS];
        final int[] counted = new int[MOST_THINGS];
        int result;
        private final Program program;
        private final int[] uses;
        private final Bindings bindings = new Bindings();
        private final Cells cells = new Cells();
        private final Functions functions = new Functions();
        private final Waits waits = new Waits();
        private int limit;
        private int mode;
        private int outcome;
        private int node;
        private int scope;
        private boolean handing;
        private int handedKind;
        private int handed;
        private int argumentCell;
        private int argumentFrom;

        Machine(Program source, int[] foretold) {
            program = source;
            uses = foretold;
        }

        void clear() {
            Arrays.fill(counts, 0);
            Arrays.fill(counted, 0);
            result = 0;
            bindings.made = 0;
            cells.made = 0;
            functions.made = 0;
            waits.size = 0;
            outcome = RUNNING;
        }

        int execute(int d, int steps, int bits, int[] arguments) {
            clear();
            limit = steps;
            mode = bits;
            scope = NONE;
            int first = at(program.defThings, d);
            int size = at(program.defSizes, d);
            for (int i = 0; i < size; i++) {
                int cell = cells.makeKept(NUMBER, at(arguments, i));
                scope = bindParameter(first + i, cell, NONE, scope);
            }
            goOn(at(program.defBodies, d), scope);
            for (int i = 0; i < MOST_MACHINE_TURNS && outcome == RUNNING; i++) {
                if (handing) {
                    handBack();
                } else {
                    evaluate();
                }
            }
            bindings.settle(counted);
            result = outcome == NUMBER ? handed : 0;
            return outcome;
        }

        private void goOn(int nextNode, int nextScope) {
            node = nextNode;
            scope = nextScope;
            handing = false;
        }

        private void hand(int kind, int datum) {
            handedKind = kind;
            handed = datum;
            handing = true;
        }

        private void evaluate() {
            if (at(counts, COUNT_STEPS) >= limit) {
                outcome = OUT;
                return;
            }
            increase(COUNT_STEPS);
            int mark = at(program.marks, node);
            switch (at(program.kinds, node)) {
                case NODE_NUMBER:
                    hand(NUMBER, mark);
                    break;
                case NODE_THING:
                    need(bindings.find(scope, mark));
                    break;
                case NODE_DEF:
                    evaluateDef(mark);
                    break;
                case NODE_PAIR:
                    evaluatePair();
                    break;
                case NODE_LAMBDA:
                    hand(FUNCTION, functions.makeLambda(node, scope));
                    break;
                case NODE_LET:
                    evaluateLet(mark);
                    break;
                case NODE_IF:
                    waitFor(WAIT_IF);
                    break;
                case NODE_SPLIT:
                    waitFor(WAIT_SPLIT);
                    break;
                case NODE_OPERATOR:
                    waitFor(WAIT_LEFT);
                    break;
                default:
                    waitFor(WAIT_APPLICATION);
                    break;
            }
        }

        private void increase(int what) {
            put(counts, what, at(counts, what) + 1);
        }

        /** The NODE waits for its first E. */
        private void waitFor(int what) {
            if (mayWait()) {
                waits.push(what, node, scope, 0);
                noteWaits();
                goOn(at(program.firsts, node), scope);
            }
        }

        private boolean mayWait() {
            if (waits.size >= MOST_WAITS) {
                outcome = DEEP;
                return false;
            }
            return true;
        }

        private void noteWaits() {
            put(counts, COUNT_WAITED, Math.max(at(counts, COUNT_WAITED), waits.size));
        }

        private void need(int binding) {
            increase(COUNT_NEEDS);
            bindings.noteNeed(binding);
            int cell = bindings.cellOf(binding);
            if (cell < 0) {
                outcome = WRONG;
            } else if (cells.isKept(cell)) {
                hand(cells.kindOf(cell), cells.datumOf(cell));
            } else if (mayWait()) {
                waits.push(WAIT_NEED, NONE, NONE, cell);
                noteWaits();
                increase(COUNT_CELL_RUNS);
                goOn(cells.nodeOf(cell), cells.scopeOf(cell));
            }
        }

        private void evaluateDef(int d) {
            if (at(program.defSizes, d) == 0) {
                goOn(at(program.defBodies, d), NONE);
            } else {
                hand(FUNCTION, functions.makeDef(d));
            }
        }

        private void evaluatePair() {
            int pair = bindings.made;
            makeArgument(at(program.firsts, node), scope);
            bindings.make(NONE, argumentCell, argumentFrom, NONE);
            makeArgument(at(program.seconds, node), scope);
            bindings.make(NONE, argumentCell, argumentFrom, NONE);
            hand(PAIR, pair);
        }

        private void evaluateLet(int bound) {
            boolean keeps = (mode & MODE_NOT_KEPT) == 0 || at(uses, bound) > 1;
            int cell = cells.make(at(program.firsts, node), scope, keeps);
            increase(COUNT_CELLS);
            goOn(at(program.seconds, node), bindings.make(bound, cell, NONE, scope));
        }

        private void makeArgument(int expression, int where) {
            if (at(program.kinds, expression) == NODE_THING) {
                argumentFrom = bindings.find(where, at(program.marks, expression));
                argumentCell = bindings.cellOf(argumentFrom);
            } else {
                argumentFrom = NONE;
                argumentCell = cells.make(expression, where, true);
                increase(COUNT_CELLS);
            }
        }

        private void handBack() {
            if (waits.size <= 0) {
                outcome = handedKind;
                return;
            }
            waits.size--;
            int top = waits.size;
            int waiting = at(waits.nodes, top);
            int where = at(waits.scopes, top);
            int datum = at(waits.data, top);
            switch (at(waits.kinds, top)) {
                case WAIT_IF:
                    if (isWanted(NUMBER)) {
                        goOn(at(handed != 0 ? program.seconds : program.thirds, waiting), where);
                    }
                    break;
                case WAIT_SPLIT:
                    if (isWanted(PAIR)) {
                        splitPair(waiting, where);
                    }
                    break;
                case WAIT_LEFT:
                    if (isWanted(NUMBER)) {
                        waits.push(WAIT_RIGHT, waiting, where, handed);
                        goOn(at(program.seconds, waiting), where);
                    }
                    break;
                case WAIT_RIGHT:
                    if (isWanted(NUMBER)) {
                        hand(NUMBER, operate(at(program.marks, waiting), datum, handed));
                    }
                    break;
                case WAIT_APPLICATION:
                    if (isWanted(FUNCTION)) {
                        apply(waiting, where);
                    }
                    break;
                default:
                    keep(datum);
                    break;
            }
        }

        private boolean isWanted(int kind) {
            if (handedKind != kind) {
                outcome = KIND;
            }
            return handedKind == kind;
        }

        private void keep(int cell) {
            if (cells.keepsValue(cell)) {
                cells.keep(cell, handedKind, handed);
                increase(COUNT_KEPT);
            }
        }

        private void splitPair(int waiting, int where) {
            int bound = at(program.marks, waiting);
            int left = bindings.make(bound, bindings.cellOf(handed), handed, where);
            int right = bindings.make(bound + 1, bindings.cellOf(handed + 1), handed + 1, left);
            goOn(at(program.seconds, waiting), right);
        }

        private static int operate(int sign, int left, int right) {
            switch (sign) {
                case '+': return left + right;
                case '-': return left - right;
                case '*': return left * right;
                default: return left < right ? 1 : 0;
            }
        }

        private void apply(int application, int where) {
            int function = handed;
            makeArgument(at(program.seconds, application), where);
            if (functions.isLambda(function)) {
                callLambda(function);
                return;
            }
            int extended = functions.extend(function, argumentCell, argumentFrom);
            int d = functions.originOf(extended);
            if (functions.givenOf(extended) < at(program.defSizes, d)) {
                hand(FUNCTION, extended);
            } else {
                callDef(d, extended);
            }
        }

        private void callLambda(int function) {
            increase(COUNT_CALLS);
            int lambda = functions.originOf(function);
            int slash = at(program.marks, lambda);
            int calls = functions.noteCall(function);
            put(counted, slash, Math.max(at(counted, slash), calls));
            int inside = bindings.make(slash + 1, argumentCell, argumentFrom, functions.linkOf(function));
            goOn(at(program.firsts, lambda), inside);
        }

        private void callDef(int d, int function) {
            int given = function;
            int inside = NONE;
            int first = at(program.defThings, d);
            for (int i = at(program.defSizes, d) - 1; i >= 0; i--) {
                inside = bindParameter(first + i, functions.cellOf(given), functions.fromOf(given), inside);
                given = functions.linkOf(given);
            }
            goOn(at(program.defBodies, d), inside);
        }

        private int bindParameter(int parameter, int cell, int from, int outer) {
            if ((mode & MODE_NOT_GIVEN) != 0 && at(uses, parameter) == 0) {
                return bindings.make(parameter, NONE, NONE, outer);
            }
            return bindings.make(parameter, cell, from, outer);
        }
    }

    /** BINDINGS, each with the one outside it; the two parts of a PAIR stand side by side. */
    private static final class Bindings {
        int made;
        private final int[] things = new int[MOST_BINDINGS];
        private final int[] cells = new int[MOST_BINDINGS];
        private final int[] froms = new int[MOST_BINDINGS];
        private final int[] outers = new int[MOST_BINDINGS];
        private final int[] needs = new int[MOST_BINDINGS];

        int make(int bound, int cell, int from, int outer) {
            if (made < 0 || made >= MOST_BINDINGS) {
                return NONE;
            }
            things[made] = bound;
            cells[made] = cell;
            froms[made] = from;
            outers[made] = outer;
            needs[made] = 0;
            made++;
            return made - 1;
        }

        int find(int scope, int bound) {
            int binding = scope;
            for (int i = 0; i <= MOST_THINGS && binding >= 0; i++) {
                if (at(things, binding) == bound) {
                    return binding;
                }
                binding = at(outers, binding);
            }
            return NONE;
        }

        int cellOf(int binding) {
            return binding < 0 ? NONE : at(cells, binding);
        }

        void noteNeed(int binding) {
            put(needs, binding, at(needs, binding) + 1);
        }

        /** What was handed on was made later, so backwards each has all its needs when its own turn comes. */
        void settle(int[] counted) {
            for (int b = Math.min(made, MOST_BINDINGS) - 1; b >= 0; b--) {
                int from = froms[b];
                if (from >= 0) {
                    put(needs, from, at(needs, from) + needs[b]);
                }
                int bound = things[b];
                if (bound >= 0) {
                    put(counted, bound, Math.max(at(counted, bound), needs[b]));
                }
            }
        }
    }

    /** CELLS, each of an E and what its NAMES were bound to, or with a value. */
    private static final class Cells {
        int made;
        private final int[] nodes = new int[MOST_CELLS];
        private final int[] scopes = new int[MOST_CELLS];
        private final int[] kinds = new int[MOST_CELLS];
        private final int[] data = new int[MOST_CELLS];
        private final boolean[] keeps = new boolean[MOST_CELLS];

        int make(int node, int scope, boolean keepsValue) {
            if (made < 0 || made >= MOST_CELLS) {
                return NONE;
            }
            nodes[made] = node;
            scopes[made] = scope;
            kinds[made] = NONE;
            data[made] = 0;
            keeps[made] = keepsValue;
            made++;
            return made - 1;
        }

        int makeKept(int kind, int datum) {
            int cell = make(NONE, NONE, true);
            keep(cell, kind, datum);
            return cell;
        }

        boolean isKept(int cell) {
            return at(kinds, cell) >= 0;
        }

        boolean keepsValue(int cell) {
            return cell >= 0 && cell < MOST_CELLS && keeps[cell];
        }

        void keep(int cell, int kind, int datum) {
            put(kinds, cell, kind);
            put(data, cell, datum);
        }

        int kindOf(int cell) {
            return at(kinds, cell);
        }

        int datumOf(int cell) {
            return at(data, cell);
        }

        int nodeOf(int cell) {
            return at(nodes, cell);
        }

        int scopeOf(int cell) {
            return at(scopes, cell);
        }
    }

    /** FUNCTIONS: of a \ with its scope, or of a DEF with its last ARGUMENT and the FUNCTION before that. */
    private static final class Functions {
        private static final int GIVEN_LAMBDA = -1;

        int made;
        private final int[] origins = new int[MOST_FUNCTIONS];
        private final int[] givens = new int[MOST_FUNCTIONS];
        private final int[] links = new int[MOST_FUNCTIONS];
        private final int[] cells = new int[MOST_FUNCTIONS];
        private final int[] froms = new int[MOST_FUNCTIONS];
        private final int[] calls = new int[MOST_FUNCTIONS];

        int makeLambda(int node, int scope) {
            return make(node, GIVEN_LAMBDA, scope, NONE, NONE);
        }

        int makeDef(int d) {
            return make(d, 0, NONE, NONE, NONE);
        }

        int extend(int before, int cell, int from) {
            return make(originOf(before), givenOf(before) + 1, before, cell, from);
        }

        private int make(int origin, int given, int link, int cell, int from) {
            if (made < 0 || made >= MOST_FUNCTIONS) {
                return NONE;
            }
            origins[made] = origin;
            givens[made] = given;
            links[made] = link;
            cells[made] = cell;
            froms[made] = from;
            calls[made] = 0;
            made++;
            return made - 1;
        }

        boolean isLambda(int function) {
            return at(givens, function) == GIVEN_LAMBDA;
        }

        int originOf(int function) {
            return at(origins, function);
        }

        int givenOf(int function) {
            return at(givens, function);
        }

        int linkOf(int function) {
            return at(links, function);
        }

        int cellOf(int function) {
            return at(cells, function);
        }

        int fromOf(int function) {
            return at(froms, function);
        }

        int noteCall(int function) {
            put(calls, function, at(calls, function) + 1);
            return at(calls, function);
        }
    }

    /** What waits, the latest last. */
    private static final class Waits {
        int size;
        final int[] kinds = new int[MOST_WAITS];
        final int[] nodes = new int[MOST_WAITS];
        final int[] scopes = new int[MOST_WAITS];
        final int[] data = new int[MOST_WAITS];

        void push(int kind, int node, int scope, int datum) {
            if (size >= 0 && size < MOST_WAITS) {
                kinds[size] = kind;
                nodes[size] = node;
                scopes[size] = scope;
                data[size] = datum;
                size++;
            }
        }
    }
}
