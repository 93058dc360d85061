import java.util.ArrayList;
import java.util.List;
import java.util.Random;

/** Makes programs by a fixed rule: the same seed always gives the same text. */
final class Programs {
    // What an E should come to: a NUMBER, a FUNCTION of one or two NUMBERS, of a FUNCTION, a PAIR of NUMBERS.
    private static final int INT = 0, ONE = 1, TWO = 2, HIGH = 3, PAIR = 4, SORTS = 5;
    private static final String[] NAMES = {"a", "b", "c", "x", "y", "z", "n", "p", "q", "acc", "let1", "f0", "g"};

    private static final class Known {
        final String name;
        final int sort;

        Known(String name, int sort) {
            this.name = name;
            this.sort = sort;
        }
    }

    private static final class DefPlan {
        String name;
        int[] parameters;
        int result;
    }

    private final Random random;
    private final List<DefPlan> defs = new ArrayList<>();
    private final int noise;

    private Programs(long seed) {
        random = new Random(seed);
        noise = random.nextInt(4) == 0 ? 12 : 60;
    }

    static String make(long seed) {
        return new Programs(seed).program();
    }

    /** A text of few long DEFS without any sorts, nested about as deep as may be, with about as many THINGS. */
    static String makeWild(long seed) {
        Random random = new Random(seed);
        StringBuilder text = new StringBuilder();
        int room = 600 + random.nextInt(1400);
        int nest = 20 + random.nextInt(23);
        for (int d = 0; d < 24 && text.length() < room; d++) {
            text.append('f').append(d);
            int size = random.nextInt(5);
            for (int i = 0; i < size; i++) {
                text.append(' ').append("abcd".charAt(i));
            }
            text.append('=');
            int end = Math.min(room, text.length() + 40 + random.nextInt(700));
            wild(text, random, nest, end);
            text.append(';');
        }
        return text.length() <= 2000 ? text.toString() : "f a = a;";
    }

    private static void wild(StringBuilder text, Random random, int nest, int end) {
        String name = "abcdxyz".substring(random.nextInt(7)).substring(0, 1);
        boolean more = nest > 0 && text.length() < end;
        switch (more ? random.nextInt(11) : 11) {
            case 0:
            case 1:
                text.append("\\").append(name).append('.');
                wild(text, random, nest - 1, end);
                break;
            case 2:
                text.append("let ").append(name).append('=');
                wild(text, random, random.nextInt(nest), end);
                text.append(" in ");
                wild(text, random, nest - 1, end);
                break;
            case 3:
                text.append("if ");
                wild(text, random, random.nextInt(2), end);
                text.append(" then ");
                wild(text, random, random.nextBoolean() ? nest - 1 : 0, end);
                text.append(" else ");
                wild(text, random, nest - 1, end);
                break;
            case 4:
                text.append("split ");
                wild(text, random, random.nextInt(3), end);
                text.append(" as ").append(name).append(",u in ");
                wild(text, random, nest - 1, end);
                break;
            case 5:
                text.append('(');
                wild(text, random, nest - 1, end);
                text.append(',');
                wild(text, random, random.nextInt(nest), end);
                text.append(')');
                break;
            default:
                wildChain(text, random, more ? nest : 0, end);
                break;
        }
    }

    private static void wildChain(StringBuilder text, Random random, int nest, int end) {
        String[] joints = {" ", " ", " ", "+", "-", "*"};
        int parts = 1 + random.nextInt(3);
        for (int i = 0; i < parts; i++) {
            text.append(i > 0 ? joints[random.nextInt(joints.length)] : "");
            int leaf = random.nextInt(8);
            if (nest > 0 && leaf < 3) {
                text.append('(');
                wild(text, random, nest - 1, end);
                text.append(')');
            } else if (leaf < 4) {
                text.append(random.nextInt(3));
            } else if (leaf < 5) {
                text.append('f').append(random.nextInt(3));
            } else {
                text.append("abcdxyzu".charAt(random.nextInt(8)));
            }
        }
    }

    /** The same with DEFS for all NAMES that may mean nothing, if there is room. */
    static String closed(String text) {
        StringBuilder all = new StringBuilder(text);
        for (String name : new String[] {"a", "b", "c", "d", "x", "y", "z", "u"}) {
            all.append(name).append("=1;");
        }
        for (int d = 0; d < 3; d++) {
            if (!text.contains("f" + d + " ") && !text.contains("f" + d + "=")) {
                all.append('f').append(d).append("=2;");
            }
        }
        return all.length() <= 2000 ? all.toString() : text;
    }

    /** A text with some bytes or tokens changed. */
    static String spoil(String text, long seed) {
        Random random = new Random(seed);
        String[] parts = {"(", ")", ",", "=", ";", "\\", ".", "+", "-", "*", "<", " let ", " in ", " if ", " then ",
            " else ", " split ", " as ", " a ", " x ", " f0 ", " 7 ", "?", "A", "abcdefghi", "1234567890", "\\x.",
            "(1,2)", " a b c d e ", "\n"};
        StringBuilder spoiled = new StringBuilder(text);
        int times = 1 + random.nextInt(3);
        for (int i = 0; i < times; i++) {
            int where = random.nextInt(spoiled.length() + 1);
            int end = Math.min(spoiled.length(), where + random.nextInt(4));
            String part = random.nextInt(3) == 0 ? "" : parts[random.nextInt(parts.length)];
            spoiled.replace(where, end, part);
        }
        spoiled.setLength(Math.min(2000, spoiled.length()));
        return spoiled.toString();
    }

    private String program() {
        int size = 1 + random.nextInt(6);
        for (int i = 0; i < size; i++) {
            DefPlan d = new DefPlan();
            d.name = "f" + i;
            d.parameters = new int[random.nextInt(5)];
            for (int j = 0; j < d.parameters.length; j++) {
                d.parameters[j] = random.nextInt(3) == 0 ? random.nextInt(SORTS) : INT;
            }
            d.result = random.nextInt(3) == 0 ? random.nextInt(SORTS) : INT;
            defs.add(d);
        }
        StringBuilder text = new StringBuilder();
        for (DefPlan d : defs) {
            List<Known> scope = new ArrayList<>();
            text.append(d.name);
            for (int j = 0; j < d.parameters.length; j++) {
                String name = "abcd".substring(j, j + 1);
                text.append(' ').append(name);
                scope.add(new Known(name, d.parameters[j]));
            }
            text.append(" = ").append(expression(d.result, scope, 2 + random.nextInt(4))).append(";\n");
        }
        return text.length() <= 2000 ? text.toString() : "f a = a;";
    }

    private boolean chance(int of) {
        return random.nextInt(of) == 0;
    }

    private String expression(int wanted, List<Known> scope, int depth) {
        int sort = chance(noise) ? random.nextInt(SORTS) : wanted;
        if (depth <= 0) {
            return leaf(sort, scope);
        }
        switch (random.nextInt(9)) {
            case 0:
                return leaf(sort, scope);
            case 1: {
                int of = random.nextInt(SORTS);
                String name = name();
                return "let " + name + " = " + expression(of, scope, depth - 1) + " in "
                        + expression(sort, with(scope, name, of), depth - 1);
            }
            case 2:
                return "if " + expression(INT, scope, depth - 1) + " then " + expression(sort, scope, depth - 1)
                        + " else " + expression(sort, scope, depth - 1);
            case 3: {
                String a = name();
                String b = name();
                if (a.equals(b)) {
                    b = "w";
                }
                return "split " + expression(PAIR, scope, depth - 1) + " as " + a + ", " + b + " in "
                        + expression(sort, with(with(scope, a, INT), b, INT), depth - 1);
            }
            case 4:
            case 5:
                return call(sort, scope, depth);
            default:
                return plain(sort, scope, depth);
        }
    }

    private String plain(int sort, List<Known> scope, int depth) {
        switch (sort) {
            case INT: {
                String[] signs = {" + ", " - ", " * ", " < ", "+"};
                return basic(INT, scope, depth - 1) + signs[random.nextInt(5)] + basic(INT, scope, depth - 1);
            }
            case PAIR:
                return "(" + expression(INT, scope, depth - 1) + ", " + expression(INT, scope, depth - 1) + ")";
            default:
                return lambda(sort, scope, depth);
        }
    }

    private String lambda(int sort, List<Known> scope, int depth) {
        String name = name();
        switch (sort) {
            case ONE:
                return "\\" + name + ". " + expression(INT, with(scope, name, INT), depth - 1);
            case TWO:
                return "\\" + name + ". " + expression(ONE, with(scope, name, INT), depth - 1);
            default:
                return "\\" + name + ". " + expression(INT, with(scope, name, ONE), depth - 1);
        }
    }

    private String call(int sort, List<Known> scope, int depth) {
        switch (random.nextInt(5)) {
            case 0:
                return "(" + lambda(ONE, scope, depth) + ") " + basic(INT, scope, depth - 1);
            case 1:
                return basic(TWO, scope, depth - 1) + " " + basic(INT, scope, depth - 1) + " "
                        + basic(INT, scope, depth - 1);
            case 2:
                return basic(HIGH, scope, depth - 1) + " " + basic(ONE, scope, depth - 1);
            default: {
                DefPlan d = defs.get(random.nextInt(defs.size()));
                for (int i = 0; i < 4 && d.result != sort; i++) {
                    d = defs.get(random.nextInt(defs.size()));
                }
                StringBuilder text = new StringBuilder(d.name);
                int given = chance(10) ? random.nextInt(6) : d.parameters.length;
                for (int i = 0; i < given; i++) {
                    int of = i < d.parameters.length ? d.parameters[i] : INT;
                    text.append(' ').append(basic(of, scope, depth - 1));
                }
                return text.toString();
            }
        }
    }

    private String basic(int sort, List<Known> scope, int depth) {
        if (depth <= 0 || chance(2)) {
            String leaf = leaf(sort, scope);
            return leaf.matches("[a-z0-9]+") ? leaf : "(" + leaf + ")";
        }
        return "(" + expression(sort, scope, depth) + ")";
    }

    private String leaf(int sort, List<Known> scope) {
        List<String> fit = new ArrayList<>();
        for (Known k : scope) {
            if (k.sort == sort) {
                fit.add(k.name);
            }
        }
        if (!fit.isEmpty() && !chance(5)) {
            return fit.get(random.nextInt(fit.size()));
        }
        switch (sort) {
            case INT: return String.valueOf(chance(9) ? 900000000 : random.nextInt(4));
            case ONE: return "\\x. x" + (chance(2) ? "" : " + x");
            case TWO: return "\\x. \\y. x" + (chance(2) ? "" : " - y");
            case HIGH: return "\\g. g 1" + (chance(2) ? "" : " + g 2");
            default: return "(1, " + random.nextInt(5) + ")";
        }
    }

    private String name() {
        return NAMES[random.nextInt(NAMES.length)];
    }

    private static List<Known> with(List<Known> scope, String name, int sort) {
        List<Known> wider = new ArrayList<>();
        for (Known k : scope) {
            if (!k.name.equals(name)) {
                wider.add(k);
            }
        }
        wider.add(new Known(name, sort));
        return wider;
    }
}
