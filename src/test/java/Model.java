import java.util.ArrayList;
import java.util.Arrays;
import java.util.HashMap;
import java.util.HashSet;
import java.util.List;
import java.util.Map;
import java.util.Set;
import java.util.TreeMap;

/** A second reading of the document, with objects, exceptions and recursion, to compare answers with. */
final class Model {
    private static final int NONE = -1, BAD = -2, FULL = -4;
    private static final Set<String> WORDS = new HashSet<>(Arrays.asList("let", "in", "if", "then", "else", "split", "as"));

    // ---- texts

    private static final class Fault extends Exception {
        private static final long serialVersionUID = 1L;
        final int number;
        final int where;

        Fault(int number, int where) {
            this.number = number;
            this.where = where;
        }
    }

    private static final class Token {
        final char sort; // n NAME, w WORD, d NUMBER, s SIGN, e end, b broken
        final String text;
        final int where;

        Token(char sort, String text, int where) {
            this.sort = sort;
            this.text = text;
            this.where = where;
        }

        boolean is(String other) {
            return (sort == 's' || sort == 'w') && text.equals(other);
        }
    }

    private static final class Node {
        String sort; // number thing def pair lambda let if split op app
        int number;  // value, THING, DEF, THING of \ or let or first of split
        String name;
        int where;
        List<Node> parts = new ArrayList<>();

        Node(String sort, int number, Node... parts) {
            this.sort = sort;
            this.number = number;
            this.parts.addAll(Arrays.asList(parts));
        }

        Node part(int i) {
            return parts.get(i);
        }
    }

    private static final class Def {
        String name;
        int where;
        int size;
        int firstThing;
        Node body;
        int[][][] row = new int[2][4][2];
    }

    private static final class Thing {
        int kind;
        int def;
        int where;
        int counted;
    }

    private static final class Program {
        final List<Def> defs = new ArrayList<>();
        final List<Thing> things = new ArrayList<>();
        final int[] counts = new int[7];
        int value;
        int rounds;

        int indexOf(String name) {
            for (int d = 0; d < defs.size(); d++) {
                if (defs.get(d).name.equals(name)) {
                    return d;
                }
            }
            return -1;
        }
    }

    private static List<Token> tokens(String text) {
        List<Token> list = new ArrayList<>();
        int i = 0;
        while (i < text.length()) {
            char c = text.charAt(i);
            if (c == 32 || c == 10) {
                i++;
                continue;
            }
            int end = i + 1;
            char sort = 'b';
            if (c >= 'a' && c <= 'z') {
                while (end < text.length() && String.valueOf(text.charAt(end)).matches("[a-z0-9]")) {
                    end++;
                }
                sort = end - i > 8 ? 'b' : WORDS.contains(text.substring(i, end)) ? 'w' : 'n';
            } else if (c >= '0' && c <= '9') {
                while (end < text.length() && text.charAt(end) >= '0' && text.charAt(end) <= '9') {
                    end++;
                }
                sort = end - i > 9 ? 'b' : 'd';
            } else if ("(),=;\\.+-*<".indexOf(c) >= 0) {
                sort = 's';
            }
            list.add(new Token(sort, text.substring(i, end), i));
            i = end;
        }
        list.add(new Token('e', "", text.length()));
        return list;
    }

    private static final class Reader {
        final List<Token> tokens;
        final Program made = new Program();
        final List<Node> loose = new ArrayList<>();
        int next;
        int open;

        Reader(String text) {
            tokens = tokens(text);
        }

        Token look() throws Fault {
            Token t = tokens.get(next);
            if (t.sort == 'b') {
                throw new Fault(1, t.where);
            }
            return t;
        }

        Token want(String text) throws Fault {
            Token t = look();
            if (!t.is(text)) {
                throw new Fault(2, t.where);
            }
            next++;
            return t;
        }

        Token wantName() throws Fault {
            Token t = look();
            if (t.sort != 'n') {
                throw new Fault(2, t.where);
            }
            return t;
        }

        int add(int kind, Token token) {
            Thing t = new Thing();
            t.kind = kind;
            t.def = made.defs.size() - 1;
            t.where = token.where;
            made.things.add(t);
            return made.things.size() - 1;
        }

        void room(Token token) throws Fault {
            if (made.things.size() == 200) {
                throw new Fault(5, token.where);
            }
        }

        void open(Token token) throws Fault {
            if (open == 40) {
                throw new Fault(5, token.where);
            }
            open++;
        }

        Program program() throws Fault {
            while (look().sort != 'e') {
                def();
            }
            for (Node n : loose) {
                n.number = made.indexOf(n.name);
                if (n.number < 0) {
                    throw new Fault(3, n.where);
                }
            }
            return made;
        }

        void def() throws Fault {
            Token t = wantName();
            if (made.indexOf(t.text) >= 0) {
                throw new Fault(4, t.where);
            }
            if (made.defs.size() == 24) {
                throw new Fault(5, t.where);
            }
            Def d = new Def();
            d.name = t.text;
            d.where = t.where;
            d.firstThing = made.things.size();
            made.defs.add(d);
            next++;
            Map<String, Integer> scope = new HashMap<>();
            while (look().sort == 'n') {
                Token p = look();
                if (scope.containsKey(p.text)) {
                    throw new Fault(4, p.where);
                }
                if (d.size == 4) {
                    throw new Fault(5, p.where);
                }
                room(p);
                scope.put(p.text, add(0, p));
                d.size++;
                next++;
            }
            want("=");
            d.body = expression(scope);
            want(";");
        }

        Node expression(Map<String, Integer> scope) throws Fault {
            Token t = look();
            Node special;
            if (t.is("\\")) {
                open(t);
                room(t);
                int slash = add(4, t);
                next++;
                Token n = wantName();
                room(n);
                int bound = add(3, n);
                next++;
                want(".");
                special = new Node("lambda", slash, expression(with(scope, n.text, bound)));
            } else if (t.is("let")) {
                open(t);
                next++;
                Token n = wantName();
                room(n);
                int bound = add(1, n);
                next++;
                want("=");
                Node first = expression(scope);
                want("in");
                special = new Node("let", bound, first, expression(with(scope, n.text, bound)));
            } else if (t.is("if")) {
                open(t);
                next++;
                Node first = expression(scope);
                want("then");
                Node second = expression(scope);
                want("else");
                special = new Node("if", 0, first, second, expression(scope));
            } else if (t.is("split")) {
                open(t);
                next++;
                Node first = expression(scope);
                want("as");
                Token a = wantName();
                room(a);
                int bound = add(2, a);
                next++;
                want(",");
                Token b = wantName();
                if (a.text.equals(b.text)) {
                    throw new Fault(4, b.where);
                }
                room(b);
                add(2, b);
                next++;
                want("in");
                Node second = expression(with(with(scope, a.text, bound), b.text, bound + 1));
                special = new Node("split", bound, first, second);
            } else {
                Node left = sum(scope);
                if (look().is("<")) {
                    next++;
                    return new Node("op", '<', left, sum(scope));
                }
                return left;
            }
            open--;
            return special;
        }

        static Map<String, Integer> with(Map<String, Integer> scope, String name, int bound) {
            Map<String, Integer> wider = new HashMap<>(scope);
            wider.put(name, bound);
            return wider;
        }

        Node sum(Map<String, Integer> scope) throws Fault {
            Node left = product(scope);
            while (look().is("+") || look().is("-")) {
                char sign = look().text.charAt(0);
                next++;
                left = new Node("op", sign, left, product(scope));
            }
            return left;
        }

        Node product(Map<String, Integer> scope) throws Fault {
            Node left = application(scope);
            while (look().is("*")) {
                next++;
                left = new Node("op", '*', left, application(scope));
            }
            return left;
        }

        Node application(Map<String, Integer> scope) throws Fault {
            Node left = basic(scope);
            while (look().sort == 'n' || look().sort == 'd' || look().is("(")) {
                left = new Node("app", 0, left, basic(scope));
            }
            return left;
        }

        Node basic(Map<String, Integer> scope) throws Fault {
            Token t = look();
            if (t.sort == 'd') {
                next++;
                return new Node("number", Integer.parseInt(t.text));
            }
            if (t.sort == 'n') {
                next++;
                if (scope.containsKey(t.text)) {
                    return new Node("thing", scope.get(t.text));
                }
                Node n = new Node("def", -1);
                n.name = t.text;
                n.where = t.where;
                loose.add(n);
                return n;
            }
            if (!t.is("(")) {
                throw new Fault(2, t.where);
            }
            open(t);
            next++;
            Node whole = expression(scope);
            if (look().is(",")) {
                next++;
                whole = new Node("pair", 0, whole, expression(scope));
            }
            want(")");
            open--;
            return whole;
        }
    }

    // ---- rows

    private static int[] use(int count, int demand) {
        return new int[] {count, demand};
    }

    private static boolean none(int[] use) {
        return use[0] == 0;
    }

    private static int[] both(int[] a, int[] b) {
        if (none(a)) {
            return b;
        }
        if (none(b)) {
            return a;
        }
        return use(Math.min(2, a[0] + b[0]), a[1] == 0 && b[1] == 0 ? 0 : 4);
    }

    private static int[] either(int[] a, int[] b) {
        if (none(a)) {
            return b;
        }
        if (none(b)) {
            return a;
        }
        int demand = a[1] == 0 ? b[1] : b[1] == 0 ? a[1] : a[1] == b[1] ? a[1] : 4;
        return use(Math.max(a[0], b[0]), demand);
    }

    private static int[] many(int[] a) {
        return none(a) ? a : use(2, a[1] == 0 ? 0 : 4);
    }

    /** USES of THINGS; what is not in it is none. */
    private static final class Uses extends TreeMap<Integer, int[]> {
        private static final long serialVersionUID = 1L;

        int[] of(int t) {
            return getOrDefault(t, use(0, 0));
        }

        Uses both(Uses other) {
            Uses sum = new Uses();
            sum.putAll(this);
            other.forEach((t, u) -> sum.put(t, Model.both(of(t), u)));
            return sum;
        }

        Uses either(Uses other) {
            Uses sum = new Uses();
            sum.putAll(this);
            other.forEach((t, u) -> sum.put(t, Model.either(of(t), u)));
            return sum;
        }

        Uses manyTimes() {
            Uses sum = new Uses();
            forEach((t, u) -> sum.put(t, many(u)));
            return sum;
        }
    }

    private int[] seen = new int[200];

    private int[] takeOut(Uses uses, int t) {
        int[] had = uses.of(t);
        uses.remove(t);
        seen[t] = Math.max(seen[t], had[0]);
        return had;
    }

    private Uses foretell(Node e, int demand) {
        Uses uses = new Uses();
        switch (e.sort) {
            case "thing":
                uses.put(e.number, use(1, demand));
                return uses;
            case "op":
                return foretell(e.part(0), 0).both(foretell(e.part(1), 0));
            case "if":
                return foretell(e.part(0), 0).both(foretell(e.part(1), demand).either(foretell(e.part(2), demand)));
            case "let": {
                uses = foretell(e.part(1), demand);
                int[] had = takeOut(uses, e.number);
                return none(had) ? uses : uses.both(foretell(e.part(0), had[1]));
            }
            case "split": {
                uses = foretell(e.part(1), demand);
                int[] a = takeOut(uses, e.number);
                int[] b = takeOut(uses, e.number + 1);
                return uses.both(foretell(e.part(0), none(a) && none(b) ? 0 : 4));
            }
            case "lambda":
                if (demand == 0) {
                    return uses;
                }
                seen[e.number] = Math.max(seen[e.number], demand == 4 ? 2 : 1);
                uses = foretell(e.part(0), demand == 4 ? 4 : demand - 1);
                takeOut(uses, e.number + 1);
                return demand == 4 ? uses.manyTimes() : uses;
            case "pair":
                return demand == 0 ? uses : argument(e.part(0), use(2, 4)).both(argument(e.part(1), use(2, 4)));
            case "app":
                return application(e, demand);
            default:
                return uses;
        }
    }

    private Uses argument(Node e, int[] use) {
        Uses uses = new Uses();
        if (none(use)) {
            return uses;
        }
        if (e.sort.equals("thing")) {
            uses.put(e.number, use);
            return uses;
        }
        return foretell(e, use[1]);
    }

    private Uses application(Node e, int demand) {
        List<Node> xs = new ArrayList<>();
        Node f = e;
        while (f.sort.equals("app")) {
            xs.add(0, f.part(1));
            f = f.part(0);
        }
        int m = xs.size();
        Uses uses = new Uses();
        int from = 0;
        if (f.sort.equals("def")) {
            Def d = program.defs.get(f.number);
            int n = d.size;
            if (m < n && demand == 0) {
                return uses;
            }
            if (m >= n) {
                int[][] row = d.row[m == n && demand == 0 ? 0 : 1];
                for (from = 0; from < n; from++) {
                    uses = uses.both(argument(xs.get(from), row[from]));
                }
            }
        } else if (f.sort.equals("lambda")) {
            seen[f.number] = Math.max(seen[f.number], 1);
            int inside = m == 1 ? demand : demand == 0 && m - 1 <= 3 ? m - 1 : 4;
            uses = foretell(f.part(0), inside);
            int[] had = takeOut(uses, f.number + 1);
            uses = uses.both(argument(xs.get(0), had));
            from = 1;
        } else {
            uses = foretell(f, demand == 0 && m <= 3 ? m : 4);
        }
        for (int i = from; i < m; i++) {
            uses = uses.both(argument(xs.get(i), use(2, 4)));
        }
        return uses;
    }

    private List<int[][][]> round() {
        List<int[][][]> next = new ArrayList<>();
        for (Def d : program.defs) {
            int[][][] row = new int[2][4][2];
            for (int under = 0; under < 2; under++) {
                Uses uses = foretell(d.body, under == 0 ? 0 : 4);
                for (int i = 0; i < d.size; i++) {
                    row[under][i] = either(d.row[under][i], uses.of(d.firstThing + i));
                }
            }
            next.add(row);
        }
        return next;
    }

    private int uses(int t) {
        Thing thing = program.things.get(t);
        if (thing.kind == 0) {
            Def d = program.defs.get(thing.def);
            int i = t - d.firstThing;
            return Math.max(d.row[0][i][0], d.row[1][i][0]);
        }
        seen = new int[200];
        round();
        return seen[t];
    }

    // ---- runs

    private static final class Ended extends RuntimeException {
        private static final long serialVersionUID = 1L;
        final int outcome;

        Ended(int outcome) {
            super(null, null, false, false);
            this.outcome = outcome;
        }
    }

    private static final class Cell {
        Node e;
        Map<Integer, Binding> scope;
        Value value;
        boolean keeps = true;
    }

    private static final class Binding {
        int thing = -1;
        Cell cell;
        Binding from;
        int needs;
    }

    private static final class Value {
        int kind; // 0 NUMBER, 1 FUNCTION, 2 PAIR
        int number;
        Node lambda;
        Map<Integer, Binding> scope;
        int calls;
        Def def;
        List<Binding> given = new ArrayList<>();
        Binding left;
        Binding right;
    }

    private int stepsLeft;
    private int mode;
    private int waiting;
    private int[] foretold;

    private Binding handOn(Binding from) {
        Binding b = new Binding();
        b.cell = from.cell;
        b.from = from;
        return b;
    }

    private Binding argument(Node e, Map<Integer, Binding> scope) {
        if (e.sort.equals("thing")) {
            return handOn(scope.get(e.number));
        }
        Binding b = new Binding();
        b.cell = new Cell();
        b.cell.e = e;
        b.cell.scope = scope;
        program.counts[2]++;
        return b;
    }

    /** A BINDING of a THING to an ARGUMENT that may have been given before. */
    private Binding bound(int thing, Binding argument) {
        Binding b = new Binding();
        b.thing = thing;
        b.cell = argument.cell;
        b.from = argument.from;
        if ((mode & 2) != 0 && program.things.get(thing).kind == 0 && foretold[thing] == 0) {
            b.cell = null;
            b.from = null;
        }
        return b;
    }

    private static Map<Integer, Binding> with(Map<Integer, Binding> scope, Binding b) {
        Map<Integer, Binding> wider = new HashMap<>(scope);
        wider.put(b.thing, b);
        return wider;
    }

    private Value waitFor(Node e, Map<Integer, Binding> scope) {
        if (waiting == 400) {
            throw new Ended(5);
        }
        waiting++;
        program.counts[5] = Math.max(program.counts[5], waiting);
        Value v = evaluate(e, scope);
        waiting--;
        return v;
    }

    private Value wanted(int kind, Value v) {
        if (v.kind != kind) {
            throw new Ended(3);
        }
        return v;
    }

    private Value evaluate(Node node, Map<Integer, Binding> where) {
        Node e = node;
        Map<Integer, Binding> scope = where;
        while (true) {
            if (stepsLeft == 0) {
                throw new Ended(4);
            }
            stepsLeft--;
            program.counts[0]++;
            Value v = new Value();
            switch (e.sort) {
                case "number":
                    v.number = e.number;
                    return v;
                case "thing":
                    return need(scope.get(e.number));
                case "lambda":
                    v.kind = 1;
                    v.lambda = e;
                    v.scope = scope;
                    return v;
                case "pair":
                    v.kind = 2;
                    v.left = argument(e.part(0), scope);
                    v.right = argument(e.part(1), scope);
                    return v;
                case "def":
                    Def d = program.defs.get(e.number);
                    if (d.size > 0) {
                        v.kind = 1;
                        v.def = d;
                        return v;
                    }
                    e = d.body;
                    scope = new HashMap<>();
                    break;
                case "let": {
                    Binding b = new Binding();
                    b.thing = e.number;
                    b.cell = new Cell();
                    b.cell.e = e.part(0);
                    b.cell.scope = scope;
                    b.cell.keeps = (mode & 1) == 0 || foretold[e.number] == 2;
                    program.counts[2]++;
                    scope = with(scope, b);
                    e = e.part(1);
                    break;
                }
                case "if":
                    e = wanted(0, waitFor(e.part(0), scope)).number != 0 ? e.part(1) : e.part(2);
                    break;
                case "split": {
                    Value pair = wanted(2, waitFor(e.part(0), scope));
                    Binding a = handOn(pair.left);
                    a.thing = e.number;
                    Binding b = handOn(pair.right);
                    b.thing = e.number + 1;
                    scope = with(with(scope, a), b);
                    e = e.part(1);
                    break;
                }
                case "op": {
                    int left = wanted(0, waitFor(e.part(0), scope)).number;
                    int right = wanted(0, waitFor(e.part(1), scope)).number;
                    v.number = e.number == '+' ? left + right : e.number == '-' ? left - right
                            : e.number == '*' ? left * right : left < right ? 1 : 0;
                    return v;
                }
                default: {
                    Value f = wanted(1, waitFor(e.part(0), scope));
                    Binding x = argument(e.part(1), scope);
                    if (f.lambda != null) {
                        program.counts[6]++;
                        f.calls++;
                        Thing slash = program.things.get(f.lambda.number);
                        slash.counted = Math.max(slash.counted, f.calls);
                        scope = with(f.scope, bound(f.lambda.number + 1, x));
                        e = f.lambda.part(0);
                        break;
                    }
                    v.kind = 1;
                    v.def = f.def;
                    v.given.addAll(f.given);
                    v.given.add(x);
                    if (v.given.size() < v.def.size) {
                        return v;
                    }
                    scope = new HashMap<>();
                    for (int i = 0; i < v.def.size; i++) {
                        Binding b = bound(v.def.firstThing + i, v.given.get(i));
                        scope.put(b.thing, b);
                    }
                    e = v.def.body;
                    break;
                }
            }
        }
    }

    private Value need(Binding needed) {
        program.counts[1]++;
        for (Binding b = needed; b != null; b = b.from) {
            b.needs++;
            if (b.thing >= 0) {
                Thing t = program.things.get(b.thing);
                t.counted = Math.max(t.counted, b.needs);
            }
        }
        Cell cell = needed.cell;
        if (cell == null) {
            throw new Ended(6);
        }
        if (cell.value != null) {
            return cell.value;
        }
        if (waiting == 400) {
            throw new Ended(5);
        }
        program.counts[3]++;
        Value v = waitFor(cell.e, cell.scope);
        if (cell.keeps) {
            cell.value = v;
            program.counts[4]++;
        }
        return v;
    }

    // ---- the face

    private final StringBuilder text = new StringBuilder();
    private Program program = new Program();
    private int faultPlace = NONE;
    private final int[] arguments = new int[4];

    int type(long v, int n) {
        if (n < 0 || n > 8) {
            return BAD;
        }
        if (n == 0) {
            text.setLength(0);
        }
        if (text.length() + n > 2000) {
            return FULL;
        }
        for (int i = n - 1; i >= 0; i--) {
            text.append((char) (v >> (8 * i) & 255));
        }
        return text.length();
    }

    int read() {
        try {
            program = new Reader(text.toString()).program();
            faultPlace = NONE;
            return program.defs.size();
        } catch (Fault fault) {
            faultPlace = fault.where;
            return -10 - fault.number;
        } finally {
            text.setLength(0);
        }
    }

    int place() {
        return faultPlace;
    }

    int def(int d, int what) {
        if (d < 0 || d >= program.defs.size()) {
            return NONE;
        }
        return what == 0 ? program.defs.get(d).size : what == 1 ? program.defs.get(d).where : BAD;
    }

    int thing(int t, int what) {
        if (t < 0 || t >= program.things.size()) {
            return NONE;
        }
        Thing thing = program.things.get(t);
        switch (what) {
            case 0: return thing.kind;
            case 1: return thing.def;
            case 2: return thing.where;
            case 3: return uses(t);
            case 4: return thing.counted;
            default: return BAD;
        }
    }

    int analyse() {
        program.rounds = 0;
        boolean changed;
        do {
            changed = check() != 1;
            List<int[][][]> next = round();
            for (int d = 0; d < next.size(); d++) {
                program.defs.get(d).row = next.get(d);
            }
            program.rounds++;
        } while (changed);
        return program.rounds;
    }

    private boolean noParameter(int d, int i) {
        return d < 0 || d >= program.defs.size() || i < 0 || i >= program.defs.get(d).size;
    }

    int row(int d, int under, int i, int what) {
        if (noParameter(d, i)) {
            return NONE;
        }
        if ((under & ~1) != 0 || (what & ~1) != 0) {
            return BAD;
        }
        return program.defs.get(d).row[under][i][what];
    }

    int plant(int d, int under, int i, int count, int demand) {
        if (noParameter(d, i)) {
            return NONE;
        }
        if ((under & ~1) != 0 || count < 0 || count > 2 || demand < 0 || demand > 4 || count == 0 && demand > 0) {
            return BAD;
        }
        program.defs.get(d).row[under][i] = use(count, demand);
        return 1;
    }

    int check() {
        List<int[][][]> next = round();
        for (int d = 0; d < next.size(); d++) {
            for (int under = 0; under < 2; under++) {
                if (!Arrays.deepEquals(next.get(d)[under], program.defs.get(d).row[under])) {
                    return -100 - (2 * d + under);
                }
            }
        }
        return 1;
    }

    int argument(int i, int v) {
        if (i < 0 || i > 3) {
            return NONE;
        }
        int before = arguments[i];
        arguments[i] = v;
        return before;
    }

    int run(int d, int steps, int bits) {
        if (d < 0 || d >= program.defs.size()) {
            return NONE;
        }
        if (steps < 0 || steps > 10000 || bits < 0 || bits > 3) {
            return BAD;
        }
        Arrays.fill(program.counts, 0);
        program.things.forEach(t -> t.counted = 0);
        program.value = 0;
        stepsLeft = steps;
        mode = bits;
        waiting = 0;
        foretold = new int[program.things.size()];
        for (int t = 0; t < foretold.length; t++) {
            foretold[t] = uses(t);
        }
        Def def = program.defs.get(d);
        Map<Integer, Binding> scope = new HashMap<>();
        for (int i = 0; i < def.size; i++) {
            Binding given = new Binding();
            given.cell = new Cell();
            given.cell.value = new Value();
            given.cell.value.number = arguments[i];
            Binding b = bound(def.firstThing + i, given);
            scope.put(b.thing, b);
        }
        try {
            Value v = evaluate(def.body, scope);
            program.value = v.kind == 0 ? v.number : 0;
            return v.kind;
        } catch (Ended ended) {
            return ended.outcome;
        }
    }

    int value() {
        return program.value;
    }

    int count(int what) {
        return what < 0 || what > 6 ? BAD : program.counts[what];
    }

    int told(int what) {
        switch (what) {
            case 0: return text.length();
            case 1: return program.defs.size();
            case 2: return program.things.size();
            case 3: return program.rounds;
            default: return BAD;
        }
    }
}
