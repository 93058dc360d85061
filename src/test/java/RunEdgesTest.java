/** Promises 11 to 14 and part 2 RUNS, at their edges: arguments, OUTCOMES, STEPS, what waits, modes, counts. */
public final class RunEdgesTest {
    private static final int NONE = UsageProofs.NONE;
    private static final int BAD = UsageProofs.BAD;
    private static final int NUMBER = 0, FUNCTION = 1, PAIR = 2, KIND = 3, OUT = 4, DEEP = 5, WRONG = 6;
    private static final int LEAST = Integer.MIN_VALUE, MOST = Integer.MAX_VALUE;
    private static final int[] FAR = {LEAST, -2, 5, 24, 10002, MOST};
    private static final Checks CHECKS = new Checks("RunEdgesTest");

    public static void main(String[] args) {
        testArgumentNumbers();
        testArgumentValues();
        testArgumentsOfTheRun();
        testSums();
        testDifferences();
        testProducts();
        testComparisons();
        testIfNotZero();
        testRunOfDefs();
        testRunSteps();
        testRunModes();
        testStepsOfEachNode();
        testLastStep();
        testTenThousandSteps();
        testNoSteps();
        testMostBindings();
        testMostCells();
        testMostFunctions();
        testLongRunsAgain();
        testKindOfEach();
        testKindComesAtOnce();
        testAsManyArguments();
        testFunctionBeforeStays();
        testWaitsOfEach();
        testFourHundredWait();
        testNothingWaitsForThese();
        testDeepComesBeforeOut();
        testHandedOn();
        testCellOfAnotherArgument();
        testKeptOnce();
        testNotKept();
        testNotGiven();
        testNotGivenIsHandedOn();
        testCountedMost();
        testCalledMost();
        testValue();
        testCountNumbers();
        testCellsThatCameToBeEvaluated();
        testCountsStartAnew();
        CHECKS.end();
    }

    private static void ran(String of, UsageProofs p, int d, int outcome, int value) {
        CHECKS.same("run of " + of, outcome, p.run(d, 10000, 0));
        CHECKS.same("value of " + of, value, p.value());
    }

    private static void ran(String text, int outcome, int value) {
        ran(text, Checks.of(text), 0, outcome, value);
    }

    private static void counts(String of, UsageProofs p, int... due) {
        for (int what = 0; what < due.length; what++) {
            CHECKS.same("count(" + what + ") of " + of, due[what], p.count(what));
        }
    }

    private static void counted(String of, UsageProofs p, int... due) {
        for (int t = 0; t < due.length; t++) {
            CHECKS.same("COUNTED of " + t + " in " + of, due[t], p.thing(t, 4));
        }
    }

    // ---- promise 11

    /** "PARAMETER i (0 .. 3)", "what it was", "NONE". */
    private static void testArgumentNumbers() {
        UsageProofs p = new UsageProofs();
        for (int i = 0; i < 4; i++) {
            CHECKS.same("argument(" + i + ")", 0, p.argument(i, 100 + i));
        }
        CHECKS.same("argument(4)", NONE, p.argument(4, 7));
        CHECKS.same("argument(-1)", NONE, p.argument(-1, 7));
        for (int i : FAR) {
            CHECKS.same("argument(" + i + ")", NONE, p.argument(i, 7));
        }
        for (int i = 0; i < 4; i++) {
            CHECKS.same("argument(" + i + ") again", 100 + i, p.argument(i, i));
            CHECKS.same("argument(" + i + ") once more", i, p.argument(i, 0));
        }
    }

    private static void testArgumentValues() {
        UsageProofs p = Checks.of("f a=a;");
        int before = 0;
        for (int v : new int[] {LEAST, MOST, -1, -2, -4, 0, 1, 999999999, 1000000000}) {
            CHECKS.same("what it was", before, p.argument(0, v));
            ran("f", p, 0, NUMBER, v);
            before = v;
        }
    }

    private static void testArgumentsOfTheRun() {
        UsageProofs p = Checks.of("f=7;g a=a;h a b=a-b;i a b c d=a*1000+b*100+c*10+d;");
        for (int i = 0; i < 4; i++) {
            p.argument(i, 9 - i);
        }
        ran("f", p, 0, NUMBER, 7);
        ran("g", p, 1, NUMBER, 9);
        ran("h", p, 2, NUMBER, 1);
        ran("i", p, 3, NUMBER, 9876);
        p.argument(3, 0);
        ran("i", p, 3, NUMBER, 9870);
        CHECKS.same("they stay when a text is read", 1, Checks.read(p, "k a b=a*b;"));
        ran("k", p, 0, NUMBER, 72);
        UsageProofs q = Checks.of("f a=g 5;g a=a;");
        q.argument(0, 3);
        ran("the RUN's DEF alone has them", q, 0, NUMBER, 5);
        counts("f", q, 4, 1, 1, 1, 1, 1, 0);
    }

    // ---- NUMBERS

    private static void number(String text, int a, int b, int due) {
        UsageProofs p = Checks.of("f a b=" + text + ";");
        p.argument(0, a);
        p.argument(1, b);
        ran(text + " of " + a + " and " + b, p, 0, NUMBER, due);
    }

    /** "of 32 bits with sign; + - * wrap". */
    private static void testSums() {
        number("a+b", MOST, 1, LEAST);
        number("a+b", MOST, MOST, -2);
        number("a+b", LEAST, LEAST, 0);
        number("a+b", LEAST, -1, MOST);
        number("a+b", LEAST, MOST, -1);
        number("a+b", MOST, 0, MOST);
        number("a+b+1", 2147483646, 0, MOST);
        number("a+b+1+1", 2147483646, 0, LEAST);
    }

    private static void testDifferences() {
        number("a-b", LEAST, 1, MOST);
        number("a-b", 0, LEAST, LEAST);
        number("a-b", -1, LEAST, MOST);
        number("a-b", MOST, -1, LEAST);
        number("a-b", LEAST, LEAST, 0);
        number("a-b", 0, MOST, -2147483647);
        ran("f=0-999999999-999999999-999999999;", NUMBER, 1294967299);
    }

    private static void testProducts() {
        number("a*b", 65536, 65536, 0);
        number("a*b", 65536, 32768, LEAST);
        number("a*b", LEAST, -1, LEAST);
        number("a*b", MOST, MOST, 1);
        number("a*b", MOST, 2, -2);
        number("a*b", 46341, 46341, -2147479015);
        number("a*b", 46340, 46340, 2147395600);
        ran("f=999999999*999999999;", NUMBER, 808348673);
        number("a*b", LEAST, LEAST, 0);
    }

    /** "< gives 1 or 0". */
    private static void testComparisons() {
        number("a<b", LEAST, MOST, 1);
        number("a<b", MOST, LEAST, 0);
        number("a<b", 3, 3, 0);
        number("a<b", LEAST, LEAST, 0);
        number("a<b", 2, 3, 1);
        number("a<b", 3, 2, 0);
        number("a<b", -1, 0, 1);
        number("a<b", 0, -1, 0);
        number("a<b", LEAST, 1, 1);
        number("a<b", LEAST, LEAST + 1, 1);
    }

    /** "if that is a NUMBER that is not 0, its third, if it is 0". */
    private static void testIfNotZero() {
        for (int a : new int[] {1, -1, 2, LEAST, MOST, 65536}) {
            number("if a then 5 else 6", a, 0, 5);
        }
        number("if a then 5 else 6", 0, 1, 6);
        number("if a+a then 5 else 6", LEAST, 0, 6);
        number("if a then 5 else l;l=l", 1, 0, 5);
        number("if a then l else 6;l=l", 0, 0, 6);
    }

    // ---- promise 12

    /** "NONE, BAD". */
    private static void testRunOfDefs() {
        UsageProofs p = Checks.of("f=7;g=8;");
        ran("the first", p, 0, NUMBER, 7);
        ran("the last", p, 1, NUMBER, 8);
        CHECKS.same("one more", NONE, p.run(2, 100, 0));
        CHECKS.same("one less", NONE, p.run(-1, 100, 0));
        for (int far : FAR) {
            CHECKS.same("DEF " + far, NONE, p.run(far, 100, 0));
            CHECKS.same("NONE comes first", NONE, p.run(2, far, far));
        }
        CHECKS.same("value stays", 8, p.value());
        CHECKS.same("a new object", NONE, new UsageProofs().run(0, 0, 0));
    }

    /** "BAD steps is not 0 .. 10000". */
    private static void testRunSteps() {
        UsageProofs p = Checks.of("f=7;");
        CHECKS.same("0", OUT, p.run(0, 0, 0));
        CHECKS.same("1", NUMBER, p.run(0, 1, 0));
        CHECKS.same("9999", NUMBER, p.run(0, 9999, 0));
        CHECKS.same("10000", NUMBER, p.run(0, 10000, 0));
        CHECKS.same("10001", BAD, p.run(0, 10001, 0));
        CHECKS.same("-1", BAD, p.run(0, -1, 0));
        CHECKS.same("least", BAD, p.run(0, LEAST, 0));
        CHECKS.same("most", BAD, p.run(0, MOST, 0));
        CHECKS.same("value stays", 7, p.value());
        counts("f", p, 1, 0, 0, 0, 0, 0, 0);
    }

    /** "mode not 0 .. 3". */
    private static void testRunModes() {
        UsageProofs p = Checks.of("f=7;");
        for (int mode = 0; mode <= 3; mode++) {
            CHECKS.same("mode " + mode, NUMBER, p.run(0, 1, mode));
            CHECKS.same("value", 7, p.value());
        }
        for (int mode : new int[] {-1, 4, 5, 7, 8, LEAST, MOST}) {
            CHECKS.same("mode " + mode, BAD, p.run(0, 1, mode));
        }
        CHECKS.same("value stays", 7, p.value());
    }

    /** "A NODE that is EVALUATED takes 1 STEP at first." */
    private static void testStepsOfEachNode() {
        String[] texts = {"f=1;", "f a=a;", "f=\\x.x;", "f=(1,2);", "f=let x=1 in 2;", "f=if 1 then 2 else 3;",
            "f=split (1,2) as x,y in 3;", "f=1+2;", "f=1<2;", "f=(\\x.1) 2;", "f=g;g=1;", "f=g;g a=1;", "f=g 1;g a=2;",
            "f=g 1;g a b=2;", "f=g 1 2;g a b=2;", "f=((1));", "f=let x=1 in x;", "f=let x=1 in x+x;", "f=(\\x.x) 1;"};
        int[] due = {1, 1, 1, 1, 2, 3, 3, 3, 3, 3, 2, 1 + 0, 3, 2, 4, 1, 3, 5, 4};
        for (int i = 0; i < texts.length; i++) {
            UsageProofs p = Checks.of(texts[i]);
            p.run(0, 100, 0);
            CHECKS.same("STEPS of " + texts[i], due[i], p.count(0));
        }
    }

    /** "OUT, when a NODE is to be EVALUATED and no STEP is left": each number of STEPS that is too small. */
    private static void testLastStep() {
        UsageProofs p = Checks.of("f=if (\\x.x<2) 1 then split (let y=3 in y+y,4) as u,v in u-v else 0;");
        ran("f", p, 0, NUMBER, 2);
        int all = p.count(0);
        // if, APPLICATION, \, <, x and 1, 2; split, PAIR; -, u and let, +, y and 3, y; v and 4.
        CHECKS.same("STEPS", 7 + 2 + 7 + 2, all);
        for (int steps = 0; steps < all; steps++) {
            CHECKS.same("with " + steps, OUT, p.run(0, steps, 0));
            CHECKS.same("value", 0, p.value());
            CHECKS.same("all of them were taken", steps, p.count(0));
        }
        CHECKS.same("with all", NUMBER, p.run(0, all, 0));
        CHECKS.same("with one more", NUMBER, p.run(0, all + 1, 0));
        CHECKS.same("STEPS", all, p.count(0));
        UsageProofs q = Checks.of("f=1 2;");
        CHECKS.same("KIND takes no STEP more", KIND, q.run(0, 2, 0));
        CHECKS.same("OUT comes ahead of it", OUT, q.run(0, 1, 0));
    }

    /** A count down from n takes 9 n + 5 STEPS, so that these take 9999, 10000, and 10001. */
    private static void testTenThousandSteps() {
        UsageProofs p = Checks.of("c n=if n<1 then 0 else c (n-1);f n=1+c n;g n=let z=1 in 1+c n;h n=if 1 then f2 n else 0;"
                + "f2 n=c n+1;");
        p.argument(0, 1110);
        ran("c", p, 0, NUMBER, 0);
        CHECKS.same("STEPS", 9995, p.count(0));
        ran("f", p, 1, NUMBER, 1);
        CHECKS.same("STEPS", 9999, p.count(0));
        ran("g", p, 2, NUMBER, 1);
        CHECKS.same("all STEPS", 10000, p.count(0));
        CHECKS.same("one less is too few", OUT, p.run(2, 9999, 0));
        ran("one more is needed", p, 3, OUT, 0);
        CHECKS.same("all STEPS", 10000, p.count(0));
        UsageProofs q = Checks.of("l=l;m a=m (m a);");
        ran("no end", q, 0, OUT, 0);
        counts("no end", q, 10000, 0, 0, 0, 0, 0, 0);
        ran("no end, with CELLS", q, 1, OUT, 0);
        CHECKS.same("all STEPS", 10000, q.count(0));
    }

    private static void testNoSteps() {
        UsageProofs p = Checks.of("f a=a;");
        p.run(0, 10, 0);
        for (int mode = 0; mode < 4; mode++) {
            CHECKS.same("no STEPS", OUT, p.run(0, 0, mode));
            counts("no STEPS", p, 0, 0, 0, 0, 0, 0, 0);
            counted("no STEPS", p, 0);
            CHECKS.same("value", 0, p.value());
        }
    }

    /** 10000 STEPS that make about two BINDINGS each, every one HANDED ON from the one before. */
    private static void testMostBindings() {
        UsageProofs p = Checks.of("f=let h=t 1 2 3 in h h;t a b c d=d d;g=split (1,1) as x,y in g;");
        ran("f", p, 0, OUT, 0);
        // let; APPLICATION, h; three APPLICATIONS and t; then an APPLICATION and d, and the last without its d.
        counts("f", p, 10000, 1 + 4996, 4, 1, 1, 5, 0);
        counted("f", p, 4997, 0, 0, 0, 4996);
        ran("g", p, 2, OUT, 0);
        counts("g", p, 10000, 0, 6666, 0, 0, 1, 0);
    }

    /** 10000 STEPS of which 190 in 191 make a new CELL. */
    private static void testMostCells() {
        String text = "s=" + Checks.repeat("split " + Checks.repeat("let a=1in ", 34) + "(1,1)as b,c in ", 5)
                + Checks.repeat("let a=1in ", 10) + "s;";
        UsageProofs p = Checks.of(text);
        CHECKS.same("THINGS", 190, p.told(2));
        ran("s", p, 0, OUT, 0);
        // 52 times all 191 NODES, then 68: split, 34 lets, PAIR, split, 31 lets.
        counts("s", p, 10000, 0, 52 * 190 + 34 + 2 + 31, 0, 0, 1, 0);
    }

    /** 10000 STEPS that make a FUNCTION each. */
    private static void testMostFunctions() {
        UsageProofs p = Checks.of("r x=r x;q=(\\x.x x) (\\x.x x);");
        p.argument(0, 5);
        ran("r", p, 0, OUT, 0);
        counts("r", p, 10000, 0, 0, 0, 0, 1, 0);
        ran("q", p, 1, OUT, 0);
        CHECKS.same("STEPS", 10000, p.count(0));
        CHECKS.same("CALLS", 4999, p.count(6));
    }

    /** A RUN has nothing of those before it. */
    private static void testLongRunsAgain() {
        UsageProofs p = Checks.of("f=let h=t 1 2 3 in h h;t a b c d=d d;g=let x=1 in g;r x=r x;c n=if n<1 then 0 else c (n-1);");
        p.argument(0, 1110);
        for (int times = 0; times < 12; times++) {
            ran("f", p, 0, OUT, 0);
            CHECKS.same("COUNTED", 4997, p.thing(0, 4));
            ran("g", p, 2, OUT, 0);
            CHECKS.same("new CELLS", 5000, p.count(2));
            ran("r", p, 3, OUT, 0);
            CHECKS.same("STEPS", 10000, p.count(0));
            ran("c", p, 4, NUMBER, 0);
            CHECKS.same("STEPS", 9995, p.count(0));
        }
    }

    /** "a NUMBER for if and OPERATORS, a PAIR for split, a FUNCTION for an APPLICATION". */
    private static void testKindOfEach() {
        for (String other : new String[] {"(1,2)", "(\\x.x)", "g", "h", "(g 1)"}) {
            String defs = ";g a b=1;h=(3,4);";
            ran("f=if " + other + " then 1 else 1" + defs, KIND, 0);
            for (String sign : new String[] {"+", "-", "*", "<"}) {
                ran("f=" + other + sign + "1" + defs, KIND, 0);
                ran("f=1" + sign + other + defs, KIND, 0);
            }
        }
        for (String other : new String[] {"1", "(\\x.x)", "g", "(1+1)"}) {
            ran("f=split " + other + " as x,y in 1;g a=1;", KIND, 0);
        }
        for (String other : new String[] {"1", "(1,2)", "(1+1)", "g", "h"}) {
            ran("f=" + other + " 1;g=(1,2);h=1;", KIND, 0);
        }
        ran("f=if 1 then (1,2) else 1;", PAIR, 0);
        ran("f=if 1 then g else 1;g a=1;", FUNCTION, 0);
        ran("f=let x=(1,2) in x;", PAIR, 0);
        ran("f a=a 1;", KIND, 0);
        ran("f a=split a as x,y in 1;", KIND, 0);
    }

    /** "KIND, as soon as something is EVALUATED that is not of the kind that is wanted". */
    private static void testKindComesAtOnce() {
        UsageProofs p = Checks.of("f=(1,2)+l;l=l;g=1 (l,l);h=split 1 as x,y in l;i=if g2 then l else l;g2 a=1;j=1+(1,2);");
        ran("the left side ahead of the right", p, 0, KIND, 0);
        counts("f", p, 2, 0, 2, 0, 0, 1, 0);
        ran("no ARGUMENT is made", p, 2, KIND, 0);
        counts("g", p, 2, 0, 0, 0, 0, 1, 0);
        ran("split", p, 3, KIND, 0);
        counts("h", p, 2, 0, 0, 0, 0, 1, 0);
        ran("if", p, 4, KIND, 0);
        counts("i", p, 2, 0, 0, 0, 0, 1, 0);
        ran("the right side", p, 6, KIND, 0);
        counts("j", p, 3, 0, 2, 0, 0, 1, 0);
    }

    /** "if these are as many as its PARAMETERS, they are BOUND to them": one less, as many, one more. */
    private static void testAsManyArguments() {
        String[] defs = {"g=\\x.x;", "g a=a*1;", "g a b=a*1+b*2;", "g a b c=a*1+b*2+c*3;", "g a b c d=a*1+b*2+c*3+d*4;"};
        int[] sums = {0, 1, 5, 14, 30};
        StringBuilder call = new StringBuilder("f=g");
        for (int m = 0; m <= 5; m++) {
            call.append(m == 0 ? "" : " " + m);
            for (int n = 1; n <= 4; n++) {
                String text = call + ";" + defs[n];
                ran(text, m < n ? FUNCTION : m == n ? NUMBER : KIND, m == n ? sums[n] : 0);
            }
        }
        ran("f=g 7;" + defs[0], NUMBER, 7);
        ran("f=g 1 2 3;g a=\\x.\\y.a*100+x*10+y;", NUMBER, 123);
        ran("f=g 1 2 3;g a=h;h a b=a*10+b;", NUMBER, 23);
    }

    /** "(in a new FUNCTION; the one before stays as it is)". */
    private static void testFunctionBeforeStays() {
        ran("f=let h=g 1 in let i=h 2 in i 3+i 4+h 5 6;g a b c=a*100+b*10+c;", NUMBER, 123 + 124 + 156);
        ran("f=let h=g in h 1 2+h 3 4+h 5 6;g a b=a*10+b;", NUMBER, 12 + 34 + 56);
        UsageProofs p = Checks.of("f=let h=g (1+1) in h 1+h 2;g a b=a+b;");
        ran("its ARGUMENT is kept", p, 0, NUMBER, 7);
        CHECKS.same("CELLS that came to be EVALUATED", 4, p.count(3));
    }

    // ---- what waits

    /** "Waiting: if, split for their first E, an OPERATOR .., an APPLICATION for its left side, a NEED for its CELL's E." */
    private static void testWaitsOfEach() {
        String[] texts = {"f=1;", "f=g;g=1;", "f=(1,2);", "f=\\x.x;", "f=let x=1 in 2;", "f a=a;", "f=if 1 then 2 else 3;",
            "f=split (1,2) as x,y in 3;", "f=1+2;", "f=(\\x.2) 1;", "f=let x=1 in x;", "f=1+(1+1);", "f=1+1+1;",
            "f=if 1 then 1+1 else 1;", "f=if if 1 then 1 else 1 then 1 else 1;", "f=split (1,2) as x,y in x;",
            "f=g 1 2;g a b=1;", "f=let x=1 in let y=x in y;", "f=let x=1 in let y=x in y+y;", "f=let x=1 in let y=2 in x+y;"};
        int[] due = {0, 0, 0, 0, 0, 0, 1, 1, 1, 1, 1, 2, 2, 1, 2, 1, 2, 2, 3, 2};
        for (int i = 0; i < texts.length; i++) {
            UsageProofs p = Checks.of(texts[i]);
            p.run(0, 100, 0);
            CHECKS.same("most waited in " + texts[i], due[i], p.count(5));
        }
    }

    /** n sums wait for their right sides, and four more, when what stands last is EVALUATED. */
    private static UsageProofs deep(int n, String last) {
        UsageProofs p = Checks.of("s n=if n<1 then z else 1+s (n-1);z=1+(1+(1+(1+" + last + ")));c=7;d a=8;");
        p.argument(0, n);
        return p;
    }

    /** "DEEP, when 400 wait and one more would", for each that waits. */
    private static void testFourHundredWait() {
        String[] waiting = {"1*9", "(9-0)", "(8<9)", "(if 1 then 9 else 0)", "(split (1,2) as x,y in 9)", "((\\x.9) 1)",
            "d 1", "(let x=9 in x)"};
        int[] values = {9, 9, 1, 9, 9, 9, 8, 9};
        for (int i = 0; i < waiting.length; i++) {
            UsageProofs p = deep(394, waiting[i]);
            ran("399 wait: " + waiting[i], p, 0, NUMBER, 398 + values[i]);
            CHECKS.same("most waited", 399, p.count(5));
            p.argument(0, 395);
            ran("400 wait: " + waiting[i], p, 0, NUMBER, 399 + values[i]);
            CHECKS.same("most waited", 400, p.count(5));
            p.argument(0, 396);
            ran("one more would: " + waiting[i], p, 0, DEEP, 0);
            CHECKS.same("most waited", 400, p.count(5));
        }
        UsageProofs right = deep(394, "((1*1)-(2*2))");
        ran("an OPERATOR for its left, then its right side", right, 0, NUMBER, 395);
        CHECKS.same("most waited", 400, right.count(5));
        ran("one more would", deep(394, "(1-(2*(2*2)))"), 0, DEEP, 0);
    }

    /** With 400 that wait, what waits for nothing is EVALUATED all the same. */
    private static void testNothingWaitsForThese() {
        String[] last = {"9", "(let x=1 in 9)", "c", "(9)"};
        int[] values = {9, 9, 7, 9};
        for (int i = 0; i < last.length; i++) {
            UsageProofs p = deep(396, last[i]);
            ran("400 wait: " + last[i], p, 0, NUMBER, 400 + values[i]);
            CHECKS.same("most waited", 400, p.count(5));
        }
        ran("a PAIR", deep(396, "(1,2)"), 0, KIND, 0);
        ran("a \\", deep(396, "(\\x.x)"), 0, KIND, 0);
        ran("a DEF", deep(396, "d"), 0, KIND, 0);
        UsageProofs p = Checks.of("s n m=if n<1 then z m else 1+s (n-1) m;z m=1+(1+(1+(1+m)));");
        p.argument(0, 396);
        p.argument(1, 9);
        ran("a CELL that has a value", p, 0, NUMBER, 409);
        CHECKS.same("most waited", 400, p.count(5));
        ran("sums without end", Checks.of("f=1+f;"), 0, DEEP, 0);
        ran("an endless DEF", Checks.of("f=f;"), 0, OUT, 0);
    }

    private static void testDeepComesBeforeOut() {
        UsageProofs p = Checks.of("f=1+f;");
        CHECKS.same("DEEP", DEEP, p.run(0, 10000, 0));
        // Each sum takes three STEPS: its own, its left side's, the NAME's; the 401st its own alone.
        counts("f", p, 1201, 0, 0, 0, 0, 400, 0);
        CHECKS.same("with just these", DEEP, p.run(0, 1201, 0));
        CHECKS.same("with one less", OUT, p.run(0, 1200, 0));
        counts("f", p, 1200, 0, 0, 0, 0, 400, 0);
        UsageProofs q = deep(396, "(let x=9 in x)");
        CHECKS.same("DEEP", DEEP, q.run(0, 10000, 0));
        int steps = q.count(0);
        int needs = q.count(1);
        CHECKS.same("NEEDS COUNTED", 1, q.thing(1, 4));
        CHECKS.same("with just these", DEEP, q.run(0, steps, 0));
        CHECKS.same("the NEED counts", needs, q.count(1));
        CHECKS.same("with one less", OUT, q.run(0, steps - 1, 0));
        CHECKS.same("there was no NEED", needs - 1, q.count(1));
    }

    // ---- CELLS and BINDINGS

    /** "this counts 1 for that BINDING, 1 for the one from which it was HANDED ON, and so on". */
    private static void testHandedOn() {
        UsageProofs p = Checks.of("f a=g a;g b=h b+b;h c=i c+c;i d=d;");
        p.argument(0, 5);
        ran("f", p, 0, NUMBER, 15);
        counted("f", p, 3, 3, 2, 1);
        counts("f", p, 11, 3, 0, 0, 0, 3, 0);
        UsageProofs q = Checks.of("f a=(\\x.split (x,a) as u,v in u+v) a;");
        q.argument(0, 5);
        ran("through \\ and a PAIR", q, 0, NUMBER, 10);
        counted("q", q, 2, 1, 1, 1, 1);
        UsageProofs r = Checks.of("f a=let x=a in x+x;");
        ran("let hands nothing on", r, 0, NUMBER, 0);
        counted("r", r, 1, 2);
        UsageProofs s = Checks.of("f a=g (a+0);g b=b+b;");
        ran("what is no NAME is not HANDED ON", s, 0, NUMBER, 0);
        counted("s", s, 1, 2);
    }

    /** "An ARGUMENT that is a NAME of a THING is HANDED ON ..; another one is a new CELL of that E." */
    private static void testCellOfAnotherArgument() {
        String[] arguments = {"a", "(a)", "1", "(a+1)", "g", "(a,a)", "(\\x.x)", "c"};
        int[] cells = {0, 0, 1, 1, 1, 1, 1, 1};
        for (int i = 0; i < arguments.length; i++) {
            UsageProofs p = Checks.of("f a=g " + arguments[i] + ";g x=1;c=1;h a=(" + arguments[i] + "," + arguments[i]
                    + ");i a=(\\x.1) " + arguments[i] + ";j a=let x=" + arguments[i] + " in 1;k a=k2 " + arguments[i] + ";k2 a b=1;");
            ran("f of " + arguments[i], p, 0, NUMBER, 1);
            CHECKS.same("new CELLS of an E", cells[i], p.count(2));
            ran("h of " + arguments[i], p, 3, PAIR, 0);
            CHECKS.same("new CELLS of a PAIR", 2 * cells[i], p.count(2));
            ran("i of " + arguments[i], p, 4, NUMBER, 1);
            CHECKS.same("new CELLS of \\", cells[i], p.count(2));
            ran("j of " + arguments[i], p, 5, NUMBER, 1);
            CHECKS.same("let makes one always", 1, p.count(2));
            ran("k of " + arguments[i], p, 6, FUNCTION, 0);
            CHECKS.same("new CELLS of a part", cells[i], p.count(2));
        }
    }

    /** "If its CELL has a value, it is that; else the CELL's E is EVALUATED .., and its value is KEPT in the CELL." */
    private static void testKeptOnce() {
        UsageProofs p = Checks.of("f=let x=2*3 in x+x+x;g a=a+a;h=g (2*3);i=let y=\\z.z in y 1+y 2;");
        ran("f", p, 0, NUMBER, 18);
        counts("f", p, 9, 3, 1, 1, 1, 4, 0);
        p.argument(0, 4);
        ran("g", p, 1, NUMBER, 8);
        counts("g", p, 3, 2, 0, 0, 0, 1, 0);
        ran("h", p, 2, NUMBER, 12);
        counts("h", p, 8, 2, 1, 1, 1, 3, 0);
        ran("i", p, 3, NUMBER, 3);
        counts("i", p, 11, 4, 3, 3, 3, 3, 2);
    }

    /** "1: a value is not KEPT in a CELL of a let whose THING has USES 0 or 1". */
    private static void testNotKept() {
        for (int count = 0; count <= 2; count++) {
            for (int mode = 0; mode < 4; mode++) {
                UsageProofs p = Checks.of("f=let x=2*3 in g x;g a=a+a;");
                p.plant(1, 0, 0, count, 0);
                // Else the PARAMETER is not given in modes 2 and 3.
                p.plant(1, 1, 0, 1, 0);
                CHECKS.same("USES of let", Math.max(count, 1), p.thing(0, 3));
                CHECKS.same("run", NUMBER, p.run(0, 100, mode));
                CHECKS.same("value", 12, p.value());
                boolean kept = mode % 2 == 0 || count == 2;
                CHECKS.same("values KEPT", kept ? 1 : 0, p.count(4));
                CHECKS.same("its E came to be EVALUATED", kept ? 1 : 2, p.count(3));
                CHECKS.same("STEPS", kept ? 9 : 12, p.count(0));
            }
        }
        UsageProofs none = Checks.of("f=let x=2*3 in g x;g a=a+a;");
        CHECKS.same("USES", 0, none.thing(0, 3));
        CHECKS.same("run", NUMBER, none.run(0, 100, 1));
        counts("USES 0", none, 12, 2, 1, 2, 0, 3, 0);
        UsageProofs asIs = Checks.of("f=let x=2*3 in g x;g a=a+a;");
        int[] kept = {0, 1, 0, 1};
        for (int times = 0; times < 4; times++) {
            asIs.plant(1, 0, 0, 1 + times % 2, 0);
            CHECKS.same("run by the ROWS as they are", NUMBER, asIs.run(0, 100, 1));
            CHECKS.same("values KEPT", kept[times], asIs.count(4));
        }
        UsageProofs others = Checks.of("f=g (2*3);g a=a;h=split (2*3,1) as x,y in x;i=(\\z.z) (2*3);");
        others.analyse();
        for (int d : new int[] {0, 2, 3}) {
            CHECKS.same("run", NUMBER, others.run(d, 100, 1));
            CHECKS.same("a CELL of no let is KEPT", 1, others.count(4));
        }
    }

    /** "2: PARAMETERS whose THING has USES 0 are not given (of the RUN's DEF, too; ..)", "WRONG (the NEED counts)". */
    private static void testNotGiven() {
        for (int count = 0; count <= 2; count++) {
            for (int under = 0; under < 2; under++) {
                for (int mode = 0; mode < 4; mode++) {
                    UsageProofs p = Checks.of("f a b=b;g=f 1 (2+3);");
                    p.plant(0, under, 1, count, 0);
                    p.argument(1, 9);
                    boolean wrong = count == 0 && mode >= 2;
                    CHECKS.same("the RUN's DEF", wrong ? WRONG : NUMBER, p.run(0, 100, mode));
                    CHECKS.same("value", wrong ? 0 : 9, p.value());
                    counts("f", p, 1, 1, 0, 0, 0, 0, 0);
                    counted("f", p, 0, 1);
                    CHECKS.same("another DEF", wrong ? WRONG : NUMBER, p.run(1, 100, mode));
                    CHECKS.same("value", wrong ? 0 : 5, p.value());
                    CHECKS.same("ARGUMENTS are made all the same", 2, p.count(2));
                    CHECKS.same("the NEED counts", 1, p.count(1));
                    counted("g", p, 0, 1);
                }
            }
        }
        UsageProofs q = Checks.of("f a=1;g=f l;l=l;");
        CHECKS.same("what is not NEEDED does no harm", NUMBER, q.run(1, 100, 3));
        CHECKS.same("a NAME of \\ is no PARAMETER", NUMBER, Checks.of("h=let k=\\x.x in k 5;").run(0, 100, 2));
        UsageProofs r = Checks.of("k y=1;h=(\\x.k x+x) 5;");
        CHECKS.same("NAME of \\ with USES of its own", NUMBER, r.run(1, 100, 3));
        CHECKS.same("value", 6, r.value());
    }

    /** "what is HANDED ON from these has no CELL, either". */
    private static void testNotGivenIsHandedOn() {
        String[] texts = {"f a=g a;g b=b;", "f a=(\\x.x) a;", "f a=split (a,1) as x,y in x;", "f a=split (1,a) as x,y in y;",
            "f a=let x=a in x;", "f a=g2 a 1;g2 b c=b;"};
        int[] needs = {1, 1, 1, 1, 2, 1};
        for (int i = 0; i < texts.length; i++) {
            UsageProofs p = Checks.of(texts[i]);
            p.analyse();
            p.plant(0, 0, 0, 0, 0);
            p.plant(0, 1, 0, 0, 0);
            p.argument(0, 7);
            CHECKS.same("run of " + texts[i], WRONG, p.run(0, 100, 2));
            CHECKS.same("NEEDS", needs[i], p.count(1));
            CHECKS.same("COUNTED where it came from", 1, p.thing(0, 4));
            CHECKS.same("value", 0, p.value());
            ran("given in mode 0: " + texts[i], p, 0, NUMBER, 7);
            CHECKS.same("given in mode 1", NUMBER, p.run(0, 100, 1));
        }
        // "their BINDINGS have no CELL, and are HANDED ON from none".
        UsageProofs q = Checks.of("f a=g a;g b=b;");
        q.plant(0, 0, 0, 1, 0);
        CHECKS.same("g's is not given", WRONG, q.run(0, 100, 2));
        counted("q", q, 0, 1);
        CHECKS.same("NEEDS", 1, q.count(1));
    }

    // ---- COUNTED

    /** "how often the BINDING of it that was NEEDED most was": not the last one, not all of them. */
    private static void testCountedMost() {
        UsageProofs p = Checks.of("h c x=if c then x+x+x else x;f=h 0 1+h 1 1+h 0 1;g=h 0 1+h 0 1;k=h 1 1;");
        ran("f", p, 1, NUMBER, 5);
        counted("f", p, 1, 3);
        ran("g", p, 2, NUMBER, 2);
        counted("g", p, 1, 1);
        ran("k", p, 3, NUMBER, 3);
        counted("k", p, 1, 3);
        UsageProofs q = Checks.of("f=let p=(1,2) in (split p as x,y in x+y)+(split p as u,v in u+u);");
        ran("q", q, 0, NUMBER, 5);
        counted("a part of a PAIR is of no THING", q, 2, 1, 1, 2, 0);
    }

    /** "of 4: how often the FUNCTION of it that was CALLED most was". */
    private static void testCalledMost() {
        UsageProofs p = Checks.of("m a=\\x.x+a;f=let g=m 1 in let h=m 2 in h 1+g 1+g 2+g 3+h 2;k=m 1 1+m 2 1;l=m 1;");
        ran("f", p, 1, NUMBER, 2 + 1 + 1 + 6 + 1 + 1 + 2 + 2);
        CHECKS.same("CALLED most", 3, p.thing(1, 4));
        CHECKS.same("CALLS", 5, p.count(6));
        ran("k", p, 2, NUMBER, 5);
        CHECKS.same("each once", 1, p.thing(1, 4));
        CHECKS.same("CALLS", 2, p.count(6));
        ran("l", p, 3, FUNCTION, 0);
        CHECKS.same("never", 0, p.thing(1, 4));
        CHECKS.same("CALLS", 0, p.count(6));
        UsageProofs q = Checks.of("f=(\\x.l) 1;l=l;");
        CHECKS.same("OUT behind the CALL", OUT, q.run(0, 2, 0));
        CHECKS.same("it was CALLED", 1, q.thing(0, 4));
        CHECKS.same("CALLS", 1, q.count(6));
        CHECKS.same("OUT ahead of the CALL", OUT, q.run(0, 1, 0));
        CHECKS.same("it was not", 0, q.thing(0, 4));
        CHECKS.same("CALLS", 0, q.count(6));
    }

    // ---- promises 13 and 14

    /** "The NUMBER that the latest RUN came to; 0 for other OUTCOMES, and before." */
    private static void testValue() {
        UsageProofs p = Checks.of("n=5;f=\\x.x;q=(1,2);k=1 2;o=o;d=1+d;w a=a;z=0-7;");
        CHECKS.same("before", 0, p.value());
        int[] outcomes = {NUMBER, FUNCTION, PAIR, KIND, OUT, DEEP, WRONG};
        for (int d = 1; d <= 6; d++) {
            p.argument(0, 3);
            CHECKS.same("a NUMBER", NUMBER, p.run(0, 100, 0));
            CHECKS.same("value", 5, p.value());
            CHECKS.same("OUTCOME " + d, outcomes[d], p.run(d, 10000, d == 6 ? 2 : 0));
            CHECKS.same("value of OUTCOME " + d, 0, p.value());
        }
        ran("below 0", p, 7, NUMBER, -7);
        CHECKS.same("a RUN that is refused", NONE, p.run(8, 100, 0));
        CHECKS.same("value stays", -7, p.value());
        p.argument(0, 4);
        p.analyse();
        CHECKS.same("value stays", -7, p.value());
    }

    /** "0 before. BAD." */
    private static void testCountNumbers() {
        UsageProofs p = Checks.of("f=(\\x.x) 1;");
        for (int what = 0; what < 7; what++) {
            CHECKS.same("before", 0, p.count(what));
        }
        CHECKS.same("count(7)", BAD, p.count(7));
        CHECKS.same("count(-1)", BAD, p.count(-1));
        for (int what : new int[] {LEAST, -7, 8, 64, MOST}) {
            CHECKS.same("count(" + what + ")", BAD, p.count(what));
        }
        ran("f", p, 0, NUMBER, 1);
        counts("f", p, 4, 1, 1, 1, 1, 1, 1);
        CHECKS.same("count(7)", BAD, p.count(7));
        CHECKS.same("count(-1)", BAD, p.count(-1));
        CHECKS.same("a new object", 0, new UsageProofs().count(6));
        CHECKS.same("a new object", BAD, new UsageProofs().count(7));
    }

    /** "3 how often a CELL's E came to be EVALUATED (also when no STEP was left for it)". */
    private static void testCellsThatCameToBeEvaluated() {
        UsageProofs p = Checks.of("f=let x=1 in x;");
        CHECKS.same("no STEP for the NAME", OUT, p.run(0, 1, 0));
        counts("1 STEP", p, 1, 0, 1, 0, 0, 0, 0);
        CHECKS.same("no STEP for the CELL's E", OUT, p.run(0, 2, 0));
        counts("2 STEPS", p, 2, 1, 1, 1, 0, 1, 0);
        CHECKS.same("a STEP for it", NUMBER, p.run(0, 3, 0));
        counts("3 STEPS", p, 3, 1, 1, 1, 1, 1, 0);
    }

    private static void testCountsStartAnew() {
        UsageProofs p = Checks.of("f=let x=1+1 in (\\y.y+y) x;g=1;");
        for (int times = 0; times < 3; times++) {
            ran("f", p, 0, NUMBER, 4);
            counts("f", p, 9, 2, 1, 1, 1, 3, 1);
            counted("f", p, 2, 1, 2);
        }
        ran("g", p, 1, NUMBER, 1);
        counts("g", p, 1, 0, 0, 0, 0, 0, 0);
        counted("g", p, 0, 0, 0);
    }
}
