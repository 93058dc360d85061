/** Promises 7 to 10 and part 3 ROWS, at their edges: USES, what is FORETOLD, ROUNDS, ROWS, plant, check. */
public final class RowEdgesTest {
    private static final int NONE = UsageProofs.NONE;
    private static final int BAD = UsageProofs.BAD;
    private static final int[][] USES = {{0, 0}, {1, 0}, {1, 1}, {1, 2}, {1, 3}, {1, 4}, {2, 0}, {2, 1}, {2, 2}, {2, 3}, {2, 4}};
    private static final int[][] EITHER_DEMAND = {{0, 1, 2, 3, 4}, {1, 1, 4, 4, 4}, {2, 4, 2, 4, 4}, {3, 4, 4, 3, 4}, {4, 4, 4, 4, 4}};
    private static final int[] NO_USE = {0, 0};
    private static final int[] MANY_ANY = {2, 4};
    private static final int[] FAR = {Integer.MIN_VALUE, -2, 5, 24, 256, Integer.MAX_VALUE};
    private static final Checks CHECKS = new Checks("RowEdgesTest");

    public static void main(String[] args) {
        testBoth();
        testBothOfThree();
        testEither();
        testMany();
        testRowBecomesEither();
        testNameUnder();
        testArgumentUnder();
        testLambdaUnder();
        testLet();
        testSplit();
        testIf();
        testPair();
        testApplicationOfDef();
        testApplicationOfLambda();
        testOtherArgumentsOfLambda();
        testApplicationOfOthers();
        testTakenOut();
        testDeepestNests();
        testNoneAtFirst();
        testRoundsThatChangeNothing();
        testRoundsOfAChain();
        testRoundsFromThePlanted();
        testLongestClimb();
        testRowNumbers();
        testRowRefused();
        testPlantUses();
        testPlantNumbers();
        testPlantTouchesNoOther();
        testCheckTellsTheFirst();
        testCheckTellsEach();
        testCheckSeesCountAndDemand();
        testCheckChangesNothing();
        testRowsHold();
        CHECKS.end();
    }

    private static void plant(UsageProofs p, int d, int under, int[] use) {
        CHECKS.same("plant(" + d + ", " + under + ")", 1, p.plant(d, under, 0, use[0], use[1]));
    }

    private static void is(String of, UsageProofs p, int d, int under, int[] due) {
        CHECKS.same("COUNT under " + under + " of " + of, due[0], p.row(d, under, 0, 0));
        CHECKS.same("DEMAND under " + under + " of " + of, due[1], p.row(d, under, 0, 1));
    }

    /** The USE of the first DEF's PARAMETER; the same behind a DEF and THINGS that have nothing to do with it. */
    private static void uses(String text, int count0, int demand0, int count4, int demand4) {
        String[] ahead = {"", "z0 a b=\\c.1;"};
        for (int d = 0; d < 2; d++) {
            UsageProofs p = Checks.of(ahead[d] + text);
            p.analyse();
            is(ahead[d] + text, p, d, 0, new int[] {count0, demand0});
            is(ahead[d] + text, p, d, 1, new int[] {count4, demand4});
        }
    }

    private static int[] both(int[] a, int[] b) {
        if (a[0] == 0) {
            return b;
        }
        return b[0] == 0 ? a : new int[] {2, a[1] + b[1] == 0 ? 0 : 4};
    }

    private static int[] either(int[] a, int[] b) {
        if (a[0] == 0) {
            return b;
        }
        return b[0] == 0 ? a : new int[] {a[0] > b[0] ? a[0] : b[0], EITHER_DEMAND[a[1]][b[1]]};
    }

    private static String name(int[] a, int[] b) {
        return "(" + a[0] + ", " + a[1] + ") and (" + b[0] + ", " + b[1] + ")";
    }

    // ---- USES of USES

    /** "BOTH of two USES": each with each; "the sum of COUNTS (2 at most)". */
    private static void testBoth() {
        for (int[] a : USES) {
            UsageProofs p = Checks.of("p x=1;q x=1;f a=p a+q a;");
            for (int[] b : USES) {
                plant(p, 0, 0, a);
                plant(p, 1, 0, b);
                plant(p, 2, 0, NO_USE);
                plant(p, 2, 1, NO_USE);
                p.analyse();
                is("BOTH of " + name(a, b), p, 2, 0, both(a, b));
                is("BOTH of " + name(a, b), p, 2, 1, both(a, b));
            }
        }
    }

    private static void testBothOfThree() {
        uses("f a=a+a+a+a;", 2, 0, 2, 0);
        uses("f a=a+(a+a)*a;", 2, 0, 2, 0);
        uses("f a=a 1+a+a;", 2, 4, 2, 4);
        uses("f a=a+a+a 1;", 2, 4, 2, 4);
        uses("f a=a 1+a 1;", 2, 4, 2, 4);
    }

    /** "EITHER of two": each with each. */
    private static void testEither() {
        for (int[] a : USES) {
            UsageProofs p = Checks.of("p x=1;q x=1;f a=if 1 then p a else q a;");
            for (int[] b : USES) {
                plant(p, 0, 0, a);
                plant(p, 1, 0, b);
                plant(p, 0, 1, b);
                plant(p, 1, 1, a);
                plant(p, 2, 0, NO_USE);
                plant(p, 2, 1, NO_USE);
                p.analyse();
                is("EITHER of " + name(a, b), p, 2, 0, either(a, b));
                is("EITHER of " + name(b, a), p, 2, 1, either(b, a));
            }
        }
    }

    /** "MANY times one: none stays; else COUNT 2, and DEMAND 0 if it is, else 4". */
    private static void testMany() {
        UsageProofs p = Checks.of("p x=1;f a=\\y.p a;");
        for (int[] a : USES) {
            plant(p, 0, 1, a);
            plant(p, 1, 1, NO_USE);
            p.analyse();
            int[] due = a[0] == 0 ? NO_USE : new int[] {2, a[1] == 0 ? 0 : 4};
            is("MANY times " + name(a, a), p, 1, 1, due);
            is("\\ under 0", p, 1, 0, NO_USE);
        }
    }

    /** "each USE in its ROW becomes EITHER of what it was and of what comes". */
    private static void testRowBecomesEither() {
        for (int[] was : USES) {
            UsageProofs p = Checks.of("p x=1;f a=p a;");
            for (int[] comes : USES) {
                plant(p, 0, 0, comes);
                plant(p, 0, 1, was);
                plant(p, 1, 0, was);
                plant(p, 1, 1, comes);
                boolean alike = either(was, comes)[0] == was[0] && either(was, comes)[1] == was[1];
                boolean other = either(comes, was)[0] == comes[0] && either(comes, was)[1] == comes[1];
                CHECKS.same("ROUNDS of " + name(was, comes), alike && other ? 1 : 2, p.analyse());
                is("what was and comes " + name(was, comes), p, 1, 0, either(was, comes));
                is("what was and comes " + name(comes, was), p, 1, 1, either(comes, was));
            }
        }
    }

    // ---- TO FORETELL

    /** "a NUMBER, a NAME of a DEF: none. A NAME of a THING: (1, D) of that. An OPERATOR: both sides under 0." */
    private static void testNameUnder() {
        uses("f a=1;", 0, 0, 0, 0);
        uses("f a=f;", 0, 0, 0, 0);
        uses("f a=g;g=1;", 0, 0, 0, 0);
        uses("f a=a;", 1, 0, 1, 4);
        uses("f a=(a);", 1, 0, 1, 4);
        for (String sign : new String[] {"+", "-", "*", "<"}) {
            uses("f a=a" + sign + "1;", 1, 0, 1, 0);
            uses("f a=1" + sign + "a;", 1, 0, 1, 0);
            uses("f a=a" + sign + "a;", 2, 0, 2, 0);
        }
        for (int k = 1; k <= 3; k++) {
            UsageProofs p = Checks.of("f a=p (let x=1 in a);p x=1;");
            p.plant(1, 0, 0, 1, k);
            p.analyse();
            is("a NAME under " + k, p, 0, 0, new int[] {1, k});
        }
    }

    /** "An ARGUMENT under a USE: none, if that is none; of a NAME of a THING: that USE of it; else ..: its E under d." */
    private static void testArgumentUnder() {
        for (int[] use : USES) {
            UsageProofs p = Checks.of("p x=1;f a=p a;g a=p (a+0);h a=p (a 1);i a=p (a,1);j a=p (let x=a in x);k a=p ((a));");
            plant(p, 0, 0, use);
            p.analyse();
            boolean none = use[0] == 0;
            is("a NAME", p, 1, 0, use);
            is("an OPERATOR", p, 2, 0, new int[] {none ? 0 : 1, 0});
            is("an APPLICATION", p, 3, 0, none ? NO_USE : new int[] {1, use[1] == 0 ? 1 : 4});
            is("a PAIR", p, 4, 0, use[1] == 0 ? NO_USE : MANY_ANY);
            is("a let", p, 5, 0, none ? NO_USE : new int[] {1, use[1]});
            is("a NAME in brackets", p, 6, 0, use);
        }
    }

    /** "\ under 0: none. Under k: it has 1 CALL; its E under k - 1 .. Under 4: it has 2 CALLS (many)". */
    private static void testLambdaUnder() {
        UsageProofs p = Checks.of("p x=1;f a=p (\\y.a);g a=p (\\y.a y);");
        int[][] due = {{0, 0}, {1, 0}, {1, 1}, {1, 2}, {2, 4}};
        int[][] called = {{0, 0}, {1, 1}, {1, 4}, {1, 4}, {2, 4}};
        int[] calls = {0, 1, 1, 1, 2};
        for (int count = 1; count <= 2; count++) {
            for (int k = 0; k <= 4; k++) {
                p.plant(0, 0, 0, count, k);
                p.plant(1, 0, 0, 0, 0);
                p.plant(2, 0, 0, 0, 0);
                p.analyse();
                is("what is in \\ under " + k, p, 1, 0, due[k]);
                is("what \\ under " + k + " calls", p, 2, 0, called[k]);
                CHECKS.same("CALLS under " + k, calls[k], p.thing(2, 3));
                CHECKS.same("its NAME under " + k, 0, p.thing(3, 3));
                CHECKS.same("NAME as ARGUMENT under " + k, k == 0 ? 0 : 2, p.thing(6, 3));
            }
        }
    }

    /** "let: .. if that is (c, d) and not none, the first E under d". */
    private static void testLet() {
        uses("f a=let x=a in 1;", 0, 0, 0, 0);
        uses("f a=let x=a in x;", 1, 0, 1, 4);
        uses("f a=let x=a in x+x;", 1, 0, 1, 0);
        uses("f a=let x=a in x 1;", 1, 1, 1, 4);
        uses("f a=let x=a in x 1 2;", 1, 2, 1, 4);
        uses("f a=let x=a in x 1 2 3;", 1, 3, 1, 4);
        uses("f a=let x=a in x 1 2 3 4;", 1, 4, 1, 4);
        uses("f a=let x=a in x 1+x 2;", 1, 4, 1, 4);
        uses("f a=let x=a in x+a;", 2, 0, 2, 0);
        uses("f a=let x=a in \\y.x;", 0, 0, 1, 4);
    }

    /** "split: .. the first E under 4, if one of these had a USE, else under 0". */
    private static void testSplit() {
        uses("f a=split a as x,y in 1;", 1, 0, 1, 0);
        uses("f a=split a as x,y in x;", 1, 4, 1, 4);
        uses("f a=split a as x,y in y;", 1, 4, 1, 4);
        uses("f a=split a as x,y in x+y;", 1, 4, 1, 4);
        uses("f a=split a as x,y in \\z.x;", 1, 0, 1, 4);
        uses("f a=split a as x,y in \\z.y;", 1, 0, 1, 4);
        uses("f a=split a as x,y in a;", 2, 0, 2, 4);
        uses("f a=split (a,1) as x,y in 1;", 0, 0, 0, 0);
        uses("f a=split (a,1) as x,y in y;", 2, 4, 2, 4);
    }

    /** "if: the first E under 0, and EITHER, THING by THING, of the others under D". */
    private static void testIf() {
        uses("f a=if a then 1 else 2;", 1, 0, 1, 0);
        uses("f a=if 1 then a else 2;", 1, 0, 1, 4);
        uses("f a=if 1 then 2 else a;", 1, 0, 1, 4);
        uses("f a=if 1 then a else a;", 1, 0, 1, 4);
        uses("f a=if a then a else 1;", 2, 0, 2, 4);
        uses("f a=if 1 then a+a else a;", 2, 0, 2, 4);
        uses("f a=if 1 then a 1 else a 1;", 1, 1, 1, 4);
        uses("f a=if 1 then a 1 else a 1 2;", 1, 4, 1, 4);
        uses("f a=if 1 then if 1 then a else a 1 else a 1;", 1, 1, 1, 4);
        uses("f a=(if 1 then a else 1)+(if 1 then 1 else a);", 2, 0, 2, 0);
    }

    /** "( E , E ) under 0: none; else both as ARGUMENTS under (2, 4)". */
    private static void testPair() {
        uses("f a=(a,1);", 0, 0, 2, 4);
        uses("f a=(1,a);", 0, 0, 2, 4);
        uses("f a=(a+1,1);", 0, 0, 1, 0);
        uses("f a=(1,a 1);", 0, 0, 1, 4);
        uses("f a=((a,1),1);", 0, 0, 2, 4);
        uses("f a=(a+1,a+1);", 0, 0, 2, 0);
    }

    private static String call(String function, int size, int place) {
        StringBuilder text = new StringBuilder(function);
        for (int i = 1; i <= size; i++) {
            text.append(i == place ? " x" : " 1");
        }
        return text.toString();
    }

    /** "m below n", "m not below n", "if m is n and D is 0": all of them up to 4 PARAMETERS and 5 ARGUMENTS. */
    private static void testApplicationOfDef() {
        String[] heads = {"k=1;", "k a=1;", "k a b=1;", "k a b c=1;", "k a b c d=1;"};
        int[] zero = {1, 1};
        int[] four = {1, 2};
        for (int n = 0; n <= 4; n++) {
            for (int m = 1; m <= 5; m++) {
                for (int j = 1; j <= m; j++) {
                    String of = call("k", m, j);
                    UsageProofs p = Checks.of(heads[n] + "f x=" + of + ";g x=let h=\\y." + of + " in h 1 2;");
                    for (int i = 0; i < n; i++) {
                        p.plant(0, 0, i, zero[0], zero[1]);
                        p.plant(0, 1, i, four[0], four[1]);
                    }
                    p.analyse();
                    int[] other = m >= n && j <= n ? four : MANY_ANY;
                    is(of + " of " + n + " under 0", p, 1, 0, m < n ? NO_USE : m == n ? zero : other);
                    is(of + " of " + n + " under 4", p, 1, 1, other);
                    is(of + " of " + n + " under 1", p, 2, 0, other);
                }
            }
        }
    }

    /** "F a \: .. its E under D, if m is 1; else under m - 1, if D is 0 and m - 1 is not above 3; else under 4". */
    private static void testApplicationOfLambda() {
        int[] demands = {0, 0, 1, 2, 3, 4, 4};
        for (int m = 1; m <= 6; m++) {
            String text = "f a=" + call("(\\y.a)", m, 0) + ";";
            uses(text, 1, demands[m], 1, 4);
            UsageProofs p = Checks.of(text);
            CHECKS.same("CALLS of " + text, 1, p.thing(1, 3));
        }
        uses("f a=let h=\\z.(\\y.a) 1 in h 1 2;", 1, 1, 2, 4);
        uses("f a=let h=\\z.(\\y.a) 1 1 in h 1 2;", 1, 4, 2, 4);
    }

    /** "its NAME is TAKEN OUT, X1 under that USE, the other X under (2, 4)". */
    private static void testOtherArgumentsOfLambda() {
        uses("f a=(\\x.1) a;", 0, 0, 0, 0);
        uses("f a=(\\x.x) a;", 1, 0, 1, 4);
        uses("f a=(\\x.x+x) a;", 2, 0, 2, 0);
        uses("f a=(\\x.x x) a;", 2, 4, 2, 4);
        uses("f a=(\\x.x) a 1;", 1, 1, 1, 4);
        uses("f a=(\\x.x) 1 a;", 2, 4, 2, 4);
        uses("f a=(\\x.1) 1 a;", 2, 4, 2, 4);
        uses("f a=(\\x.x+x) (a+1);", 1, 0, 1, 0);
        uses("f a=(\\x.1) (a+1);", 0, 0, 0, 0);
    }

    /** "Another F: F under m, if D is 0 and m not above 3, else under 4; all X under (2, 4)". */
    private static void testApplicationOfOthers() {
        int[] demands = {0, 1, 2, 3, 4, 4};
        for (int m = 1; m <= 5; m++) {
            uses("f a=" + call("a", m, 0) + ";", 1, demands[m], 1, 4);
            uses("f a=" + call("(if 1 then a else 1)", m, 0) + ";", 1, demands[m], 1, 4);
            uses("f a=" + call("(let b=1 in a)", m, 0) + ";", 1, demands[m], 1, 4);
            for (int j = 1; j <= m; j++) {
                uses("f x=" + call("1", m, j) + ";", 2, 4, 2, 4);
                uses("f x=" + call("(let b=1 in b)", m, j).replace("x", "(x+1)") + ";", 1, 0, 1, 0);
            }
        }
        uses("f a=let h=\\z.a 1 in h 1 2;", 1, 4, 2, 4);
        uses("f a=(a,1) 2;", 2, 4, 2, 4);
    }

    /** What is TAKEN OUT is another THING than one of that NAME outside. */
    private static void testTakenOut() {
        uses("f a=let a=1 in a;", 0, 0, 0, 0);
        uses("f a=let a=a in a;", 1, 0, 1, 4);
        uses("f a=(\\a.a+a) 1;", 0, 0, 0, 0);
        uses("f a=(\\a.a+a) a;", 2, 0, 2, 0);
        uses("f a=split (1,2) as a,b in a;", 0, 0, 0, 0);
        uses("f a=split a as b,a in a;", 1, 4, 1, 4);
    }

    /** 40 that are open at once, of each that is FORETOLD by parts. */
    private static void testDeepestNests() {
        uses("f a=" + Checks.repeat("if 1 then ", 40) + "a" + Checks.repeat(" else 1", 40) + ";", 1, 0, 1, 4);
        uses("f a=" + Checks.repeat("if 1 then 1 else ", 40) + "a;", 1, 0, 1, 4);
        uses("f a=" + Checks.repeat("if 1 then a else ", 40) + "a+a;", 2, 0, 2, 4);
        uses("f a=" + Checks.repeat("if a then 1 else ", 40) + "1;", 2, 0, 2, 0);
        uses("f a=" + Checks.repeat("if ", 40) + "a" + Checks.repeat(" then 1 else 1", 40) + ";", 1, 0, 1, 0);
        uses("f a=" + Checks.repeat("\\x.", 40) + "a;", 0, 0, 2, 4);
        uses("f a=" + Checks.repeat("\\x.", 40) + "a+0;", 0, 0, 2, 0);
        uses("f a=" + Checks.repeat("let x=1 in ", 40) + "a;", 1, 0, 1, 4);
        uses("f a=" + Checks.repeat("let x=", 40) + "a" + Checks.repeat(" in x", 40) + ";", 1, 0, 1, 4);
        uses("f a=" + Checks.repeat("split 1 as x,y in ", 40) + "a;", 1, 0, 1, 4);
        uses("f a=" + Checks.repeat("split ", 40) + "a" + Checks.repeat(" as x,y in y", 40) + ";", 1, 4, 1, 4);
        uses("f a=" + Checks.repeat("(1,", 40) + "a" + Checks.repeat(")", 40) + ";", 0, 0, 2, 4);
        uses("f a=" + Checks.repeat("\\x.if 1 then 1 else ", 20) + "a;", 0, 0, 2, 4);
    }

    // ---- promise 7

    /** "all none at first (when THE TEXT was read)". */
    private static void testNoneAtFirst() {
        UsageProofs p = Checks.of("f a b c d=a+b;g a=a;");
        for (int under = 0; under < 2; under++) {
            for (int i = 0; i < 4; i++) {
                CHECKS.same("COUNT", 0, p.row(0, under, i, 0));
                CHECKS.same("DEMAND", 0, p.row(0, under, i, 1));
            }
            is("the other DEF", p, 1, under, NO_USE);
        }
    }

    /** "ROUNDS till one changes nothing: how many (that one, too)": 1 at least. */
    private static void testRoundsThatChangeNothing() {
        CHECKS.same("a new object", 1, new UsageProofs().analyse());
        CHECKS.same("no DEFS", 1, Checks.of("").analyse());
        CHECKS.same("no PARAMETERS", 1, Checks.of("f=1;g=\\x.x;").analyse());
        CHECKS.same("none needed", 1, Checks.of("f a b c d=1;").analyse());
        CHECKS.same("nothing comes", 1, Checks.of("f a=f a;").analyse());
        UsageProofs p = Checks.of("f a=a;");
        CHECKS.same("one changes", 2, p.analyse());
        CHECKS.same("none changes", 1, p.analyse());
        CHECKS.same("none changes again", 1, p.analyse());
    }

    /** "all by the ROWS as they were before the ROUND". */
    private static void testRoundsOfAChain() {
        for (int size = 1; size <= 24; size++) {
            StringBuilder ahead = new StringBuilder();
            StringBuilder behind = new StringBuilder();
            for (int d = 0; d < size; d++) {
                ahead.append('f').append(d).append(" a=").append(d == size - 1 ? "a" : "f" + (d + 1) + " a").append(';');
                behind.append('f').append(d).append(" a=").append(d == 0 ? "a" : "f" + (d - 1) + " a").append(';');
            }
            CHECKS.same("a chain of " + size, size + 1, Checks.of(ahead.toString()).analyse());
            CHECKS.same("a chain back of " + size, size + 1, Checks.of(behind.toString()).analyse());
        }
        UsageProofs swap = Checks.of("f a b=f b a+a;");
        CHECKS.same("a ROW by itself: a once, b once, a many, b many, nothing", 5, swap.analyse());
    }

    private static void testRoundsFromThePlanted() {
        UsageProofs p = Checks.of("f a=g a;g a=a;");
        plant(p, 1, 0, MANY_ANY);
        plant(p, 1, 1, MANY_ANY);
        CHECKS.same("from what was planted", 2, p.analyse());
        is("it is handed on", p, 0, 0, MANY_ANY);
        is("it stays", p, 1, 0, MANY_ANY);
        plant(p, 1, 0, NO_USE);
        CHECKS.same("one is found again", 2, p.analyse());
        is("found", p, 1, 0, new int[] {1, 0});
        is("what it was once led to stays", p, 0, 0, MANY_ANY);
    }

    /** A USE can rise four times, each of all 192; so many ROUNDS all the same have an end. */
    private static void testLongestClimb() {
        UsageProofs one = Checks.of("f a=if 1 then a else g a;g a=if 1 then a 1 else h a;h a=if 1 then a 1 2 else k a;k a=a+a 1;");
        CHECKS.same("ROUNDS", 5, one.analyse());
        is("f", one, 0, 0, MANY_ANY);
        StringBuilder text = new StringBuilder();
        for (int d = 0; d < 23; d++) {
            text.append('f').append(d).append(" a b c d=f").append(d + 1).append(" b c d a;");
        }
        text.append("f23 a b c d=if 1 then a+f0 a b c d else f0 b c d a;");
        UsageProofs all = Checks.of(text.toString());
        int rounds = all.analyse();
        CHECKS.holds("ROUNDS are many: " + rounds, rounds > 96);
        CHECKS.same("told", rounds, all.told(3));
        CHECKS.same("they hold", 1, all.check());
        CHECKS.same("no more", 1, all.analyse());
        for (int d = 0; d < 24; d++) {
            for (int i = 0; i < 4; i++) {
                CHECKS.same("COUNT of " + d + ", " + i, 2, all.row(d, 0, i, 0));
            }
        }
    }

    // ---- promise 8

    private static final String[] SIZES = {"f=1;", "f a=1;", "f a b=1;", "f a b c=1;", "f a b c d=1;"};

    /** "under = 0, 1: under 0, 4", "what = 0 COUNT, 1 DEMAND". */
    private static void testRowNumbers() {
        for (int size = 0; size <= 4; size++) {
            UsageProofs p = Checks.of(SIZES[size]);
            for (int i = 0; i < size; i++) {
                CHECKS.same("plant", 1, p.plant(0, 0, i, 1, i));
                CHECKS.same("plant", 1, p.plant(0, 1, i, 2, 4 - i));
            }
            for (int i = 0; i < size; i++) {
                CHECKS.same("COUNT under 0", 1, p.row(0, 0, i, 0));
                CHECKS.same("DEMAND under 0", i, p.row(0, 0, i, 1));
                CHECKS.same("COUNT under 4", 2, p.row(0, 1, i, 0));
                CHECKS.same("DEMAND under 4", 4 - i, p.row(0, 1, i, 1));
            }
            for (int under = 0; under < 2; under++) {
                CHECKS.same("PARAMETER " + size, NONE, p.row(0, under, size, 0));
                CHECKS.same("PARAMETER " + size + " planted", NONE, p.plant(0, under, size, 1, 0));
                CHECKS.same("PARAMETER -1", NONE, p.row(0, under, -1, 0));
                CHECKS.same("PARAMETER -1 planted", NONE, p.plant(0, under, -1, 1, 0));
            }
        }
    }

    /** "NONE the DEF or PARAMETER, BAD under, what". */
    private static void testRowRefused() {
        UsageProofs p = Checks.of("f a=a;g=1;h b=b;");
        CHECKS.same("the last DEF", 0, p.row(2, 1, 0, 1));
        CHECKS.same("one more", NONE, p.row(3, 1, 0, 1));
        CHECKS.same("one less", NONE, p.row(-1, 1, 0, 1));
        CHECKS.same("no PARAMETERS", NONE, p.row(1, 0, 0, 0));
        for (int under : new int[] {-1, 2, 4}) {
            CHECKS.same("under " + under, BAD, p.row(0, under, 0, 0));
        }
        for (int what : new int[] {-1, 2}) {
            CHECKS.same("what " + what, BAD, p.row(0, 0, 0, what));
        }
        for (int far : FAR) {
            CHECKS.same("DEF " + far, NONE, p.row(far, 0, 0, 0));
            CHECKS.same("PARAMETER " + far, NONE, p.row(0, 0, far, 0));
            CHECKS.same("under " + far, BAD, p.row(0, far, 0, 0));
            CHECKS.same("what " + far, BAD, p.row(0, 0, 0, far));
            CHECKS.same("NONE of a DEF comes first", NONE, p.row(3, far, 0, far));
            CHECKS.same("NONE of a PARAMETER comes first", NONE, p.row(0, far, 1, far));
        }
    }

    // ---- promise 9

    /** "It becomes that USE: 1. .. BAD (also COUNT 0 with a DEMAND)". */
    private static void testPlantUses() {
        for (int under = 0; under < 2; under++) {
            UsageProofs p = Checks.of("f a=1;");
            int[] was = {2, 3};
            plant(p, 0, under, was);
            for (int count = -1; count <= 3; count++) {
                for (int demand = -1; demand <= 5; demand++) {
                    boolean good = count >= 0 && count <= 2 && demand >= 0 && demand <= 4 && (count > 0 || demand == 0);
                    CHECKS.same("plant (" + count + ", " + demand + ")", good ? 1 : BAD, p.plant(0, under, 0, count, demand));
                    was = good ? new int[] {count, demand} : was;
                    is("(" + count + ", " + demand + ")", p, 0, under, was);
                }
            }
            is("the other ROW", p, 0, 1 - under, NO_USE);
        }
    }

    private static void testPlantNumbers() {
        UsageProofs p = Checks.of("f a=a;g=1;h b=b;");
        CHECKS.same("the last DEF", 1, p.plant(2, 1, 0, 1, 0));
        CHECKS.same("one more", NONE, p.plant(3, 1, 0, 1, 0));
        CHECKS.same("one less", NONE, p.plant(-1, 1, 0, 1, 0));
        CHECKS.same("no PARAMETERS", NONE, p.plant(1, 0, 0, 1, 0));
        CHECKS.same("under -1", BAD, p.plant(0, -1, 0, 1, 0));
        CHECKS.same("under 2", BAD, p.plant(0, 2, 0, 1, 0));
        for (int far : FAR) {
            CHECKS.same("DEF " + far, NONE, p.plant(far, 0, 0, 1, 0));
            CHECKS.same("PARAMETER " + far, NONE, p.plant(0, 0, far, 1, 0));
            CHECKS.same("under " + far, BAD, p.plant(0, far, 0, 1, 0));
            CHECKS.same("COUNT " + far, BAD, p.plant(0, 0, 0, far, 0));
            CHECKS.same("DEMAND " + far, BAD, p.plant(0, 0, 0, 1, far));
            CHECKS.same("NONE of a DEF comes first", NONE, p.plant(3, far, 0, far, far));
            CHECKS.same("NONE of a PARAMETER comes first", NONE, p.plant(0, far, 1, far, far));
        }
        is("nothing was planted", p, 0, 0, NO_USE);
        is("nothing was planted", p, 0, 1, NO_USE);
        is("nothing was planted", p, 2, 0, NO_USE);
        is("this was", p, 2, 1, new int[] {1, 0});
    }

    private static void testPlantTouchesNoOther() {
        StringBuilder text = new StringBuilder();
        for (int d = 0; d < 24; d++) {
            text.append('f').append(d).append(" a b c d=1;");
        }
        for (int at = 0; at < 192; at += 1 + at % 7) {
            UsageProofs p = Checks.of(text.toString());
            CHECKS.same("plant", 1, p.plant(at / 8, at % 8 / 4, at % 4, 1, 3));
            for (int other = 0; other < 192; other++) {
                CHECKS.same("COUNT", other == at ? 1 : 0, p.row(other / 8, other % 8 / 4, other % 4, 0));
            }
        }
    }

    // ---- promise 10

    private static String many() {
        StringBuilder text = new StringBuilder();
        for (int d = 0; d < 24; d++) {
            text.append('f').append(d).append(" a=a;");
        }
        return text.toString();
    }

    /** "-100 less twice the DEF and under (0, 1) of the first ROW that a ROUND would change (DEF by DEF)". */
    private static void testCheckTellsTheFirst() {
        UsageProofs p = Checks.of(many());
        for (int r = 0; r < 48; r++) {
            CHECKS.same("row " + r, -100 - r, p.check());
            p.plant(r / 2, r % 2, 0, 1, r % 2 * 4);
        }
        CHECKS.same("they hold", 1, p.check());
    }

    private static void testCheckTellsEach() {
        UsageProofs p = Checks.of(many());
        p.analyse();
        for (int r = 0; r < 48; r++) {
            p.plant(r / 2, r % 2, 0, 0, 0);
            CHECKS.same("row " + r, -100 - r, p.check());
            p.plant(r / 2, r % 2, 0, 2, 4);
            CHECKS.same("greater than it need be", 1, p.check());
        }
        UsageProofs four = Checks.of("g=1;f a b c d=a+b+c+d;");
        for (int i = 0; i < 4; i++) {
            four.analyse();
            four.plant(1, 1, i, 0, 0);
            CHECKS.same("PARAMETER " + i, -103, four.check());
        }
    }

    private static void testCheckSeesCountAndDemand() {
        UsageProofs p = Checks.of("f a=a+a;g a=a 1;");
        p.analyse();
        CHECKS.same("they hold", 1, p.check());
        p.plant(0, 0, 0, 1, 0);
        CHECKS.same("a COUNT alone", -100, p.check());
        p.plant(0, 0, 0, 2, 1);
        CHECKS.same("a greater DEMAND", 1, p.check());
        p.plant(1, 0, 0, 1, 0);
        CHECKS.same("a DEMAND alone", -102, p.check());
        p.plant(1, 0, 0, 1, 2);
        CHECKS.same("another DEMAND", -102, p.check());
        p.plant(1, 0, 0, 1, 4);
        CHECKS.same("any DEMAND", 1, p.check());
        p.plant(1, 0, 0, 2, 1);
        CHECKS.same("a greater COUNT", 1, p.check());
    }

    private static void testCheckChangesNothing() {
        UsageProofs p = Checks.of("f a=g a;g a=a;");
        p.run(0, 100, 0);
        String before = Checks.answers(p);
        CHECKS.same("check", -102, p.check());
        CHECKS.same("check again", -102, p.check());
        CHECKS.alike("all answers", before, Checks.answers(p));
        CHECKS.same("as many ROUNDS", 3, p.analyse());
    }

    /** "THE ROWS HOLD, if no ROUND would change one." */
    private static void testRowsHold() {
        CHECKS.same("a new object", 1, new UsageProofs().check());
        CHECKS.same("no PARAMETERS", 1, Checks.of("f=1;").check());
        CHECKS.same("nothing comes", 1, Checks.of("f a=f a;").check());
        UsageProofs p = Checks.of("f a=f a;");
        plant(p, 0, 0, new int[] {1, 2});
        CHECKS.same("what leads to itself", 1, p.check());
        plant(p, 0, 0, NO_USE);
        plant(p, 0, 1, new int[] {1, 2});
        CHECKS.same("under 4 the same", 1, p.check());
        UsageProofs q = Checks.of("f a=f (a+1);");
        CHECKS.same("nothing comes", 1, q.check());
        plant(q, 0, 1, new int[] {1, 2});
        CHECKS.same("that comes under 0, which is less", 1, q.check());
    }
}
