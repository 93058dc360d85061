/** Promises 11 to 14, and COUNTED of promise 6: arguments, runs, values, counts. */
public final class RunsTest {
    private static final int NONE = UsageProofs.NONE;
    private static final int BAD = UsageProofs.BAD;
    private static final int NUMBER = 0, FUNCTION = 1, PAIR = 2, KIND = 3, OUT = 4, DEEP = 5, WRONG = 6;
    private static final Checks CHECKS = new Checks("RunsTest");

    public static void main(String[] args) {
        testArgument();
        testRunRefusals();
        testNumbers();
        testOutcomes();
        testKindAtOnce();
        testScopes();
        testLazy();
        testKept();
        testNotKept();
        testNotGiven();
        testNotGivenHandedOn();
        testHandedOn();
        testHandedOnThroughPairs();
        testPartialFunctions();
        testCalls();
        testSteps();
        testOutCountsCell();
        testDeep();
        testDeepNeed();
        testWaits();
        testLatestRun();
        testCountRefusals();
        testLongRuns();
        CHECKS.end();
    }

    private static void ran(UsageProofs p, int d, int outcome, int value) {
        CHECKS.same("run(" + d + ")", outcome, p.run(d, 10000, 0));
        CHECKS.same("value of " + d, value, p.value());
    }

    private static void counts(UsageProofs p, int... due) {
        for (int what = 0; what < due.length; what++) {
            CHECKS.same("count(" + what + ")", due[what], p.count(what));
        }
    }

    private static void counted(UsageProofs p, int... due) {
        for (int t = 0; t < due.length; t++) {
            CHECKS.same("COUNTED of " + t, due[t], p.thing(t, 4));
        }
    }

    private static void testArgument() {
        UsageProofs p = Checks.of("f a b c d=a-b*c+d;");
        for (int i = 0; i < 4; i++) {
            CHECKS.same("argument at first", 0, p.argument(i, 10 + i));
            CHECKS.same("argument then", 10 + i, p.argument(i, 2 + i));
        }
        CHECKS.same("argument -1", NONE, p.argument(-1, 1));
        CHECKS.same("argument 4", NONE, p.argument(4, 1));
        CHECKS.same("argument least", NONE, p.argument(Integer.MIN_VALUE, 1));
        ran(p, 0, NUMBER, 2 - 3 * 4 + 5);
        p.argument(3, Integer.MIN_VALUE);
        CHECKS.same("argument of any size", Integer.MIN_VALUE, p.argument(3, 0));
    }

    private static void testRunRefusals() {
        UsageProofs p = Checks.of("f=7;");
        ran(p, 0, NUMBER, 7);
        CHECKS.same("run DEF 1", NONE, p.run(1, 10, 0));
        CHECKS.same("run DEF -1", NONE, p.run(-1, 10, 0));
        CHECKS.same("run NONE before BAD", NONE, p.run(1, -1, 9));
        CHECKS.same("run steps -1", BAD, p.run(0, -1, 0));
        CHECKS.same("run steps 10001", BAD, p.run(0, 10001, 0));
        CHECKS.same("run mode -1", BAD, p.run(0, 10, -1));
        CHECKS.same("run mode 4", BAD, p.run(0, 10, 4));
        CHECKS.same("a refused run changes nothing", 7, p.value());
        counts(p, 1, 0, 0, 0, 0, 0, 0);
        CHECKS.same("run without STEPS", OUT, p.run(0, 0, 0));
        counts(p, 0, 0, 0, 0, 0, 0, 0);
        CHECKS.same("value of OUT", 0, p.value());
        CHECKS.same("run with one STEP", NUMBER, p.run(0, 1, 3));
        CHECKS.same("value", 7, p.value());
    }

    private static void testNumbers() {
        UsageProofs p = Checks.of("f a b=a+b;g a b=a-b;h a b=a*b;i a b=a<b;j=10-3-2;k=2+3*4-1;l=1<2+3;m=2*3*4;"
                + "n=999999999*999999999;o=00012;q=if 0-1 then 5 else 6;r=if 0 then 5 else 6;");
        int[][] pairs = {{3, 4}, {4, 3}, {0, 0}, {Integer.MAX_VALUE, 1}, {Integer.MIN_VALUE, -1},
            {Integer.MIN_VALUE, Integer.MAX_VALUE}, {-5, 5}, {123456789, 987654321}};
        for (int[] pair : pairs) {
            p.argument(0, pair[0]);
            p.argument(1, pair[1]);
            ran(p, 0, NUMBER, pair[0] + pair[1]);
            ran(p, 1, NUMBER, pair[0] - pair[1]);
            ran(p, 2, NUMBER, pair[0] * pair[1]);
            ran(p, 3, NUMBER, pair[0] < pair[1] ? 1 : 0);
        }
        ran(p, 4, NUMBER, 5);
        ran(p, 5, NUMBER, 13);
        ran(p, 6, NUMBER, 1);
        ran(p, 7, NUMBER, 24);
        ran(p, 8, NUMBER, 999999999 * 999999999);
        ran(p, 9, NUMBER, 12);
        ran(p, 10, NUMBER, 5);
        ran(p, 11, NUMBER, 6);
    }

    private static void testOutcomes() {
        UsageProofs p = Checks.of("f=3;g=\\x.x;h=(1,2);i=1 2;j=i;k=j2 1;j2 a b=a;l=l;m=h+1;n=if g then 1 else 2;"
                + "o=split 1 as x,y in x;q=h 1;r=g+1;s=j2;t=1+h;u=1+g;");
        int[] due = {NUMBER, FUNCTION, PAIR, KIND, KIND, FUNCTION, NUMBER, OUT, KIND, KIND, KIND, KIND, KIND, FUNCTION,
            KIND, KIND};
        p.argument(0, 4);
        int[] values = {3, 0, 0, 0, 0, 0, 4, 0, 0, 0, 0, 0, 0, 0, 0, 0};
        for (int d = 0; d < due.length; d++) {
            ran(p, d, due[d], values[d]);
        }
    }

    private static void testKindAtOnce() {
        UsageProofs p = Checks.of("l=l;f=(1,1)+l;g=(\\x.x)+l;h=1 (l+1);");
        CHECKS.same("KIND of the left side, before the right one", KIND, p.run(1, 100, 0));
        counts(p, 2, 0, 2, 0, 0, 1, 0);
        CHECKS.same("KIND of a FUNCTION", KIND, p.run(2, 100, 0));
        counts(p, 2, 0, 0, 0, 0, 1, 0);
        CHECKS.same("no ARGUMENT is made for what is no FUNCTION", KIND, p.run(3, 100, 0));
        counts(p, 2, 0, 0, 0, 0, 1, 0);
        UsageProofs q = Checks.of("f=let x=(1,2) in x+1;");
        CHECKS.same("KIND behind a NEED", KIND, q.run(0, 100, 0));
        counts(q, 4, 1, 3, 1, 1, 2, 0);
    }

    private static void testScopes() {
        UsageProofs p = Checks.of("x=100;f=let x=x+1 in x;g x=let x=x+1 in x;h x=(\\x.x+1) (x*2)+x;"
                + "i x=split (x+1,x+2) as x,y in x*10+y;j f=f;k=let f=\\x.\\y.x-y in f 7 2;l x=(\\y.\\x.x+y) x 5;"
                + "m a=let g=\\x.x+a in (\\a.g a) 100;");
        p.argument(0, 3);
        ran(p, 1, NUMBER, 101);
        ran(p, 2, NUMBER, 4);
        ran(p, 3, NUMBER, 10);
        ran(p, 4, NUMBER, 45);
        ran(p, 5, NUMBER, 3);
        ran(p, 6, NUMBER, 5);
        ran(p, 7, NUMBER, 8);
        ran(p, 8, NUMBER, 103);
    }

    private static void testLazy() {
        UsageProofs p = Checks.of("l=l;k a b=a;f=k 1 l;g=let x=l in 2;h=split (l,3) as x,y in y;i=(\\x.4) l;"
                + "j=(l,l);");
        ran(p, 2, NUMBER, 1);
        counts(p, 5, 1, 2, 1, 1, 2, 0);
        ran(p, 3, NUMBER, 2);
        ran(p, 4, NUMBER, 3);
        ran(p, 5, NUMBER, 4);
        ran(p, 6, PAIR, 0);
    }

    private static void testKept() {
        UsageProofs p = Checks.of("f=let x=2*3 in x+x+x;");
        ran(p, 0, NUMBER, 18);
        counts(p, 1 + 2 + 3 + 3, 3, 1, 1, 1, 4, 0);
        counted(p, 3);
        UsageProofs q = Checks.of("g=2*3;f=g+g;");
        ran(q, 1, NUMBER, 12);
        counts(q, 9, 0, 0, 0, 0, 2, 0);
    }

    private static void testNotKept() {
        UsageProofs p = Checks.of("f=let x=2*3 in x+x;g=let x=2*3 in x;");
        p.analyse();
        CHECKS.same("needed often, kept", NUMBER, p.run(0, 100, 1));
        counts(p, 7, 2, 1, 1, 1, 3, 0);
        CHECKS.same("needed once, not kept", NUMBER, p.run(1, 100, 1));
        CHECKS.same("value", 6, p.value());
        counts(p, 5, 1, 1, 1, 0, 2, 0);
        CHECKS.same("kept in another mode", NUMBER, p.run(1, 100, 2));
        counts(p, 5, 1, 1, 1, 1, 2, 0);
        UsageProofs q = Checks.of("g a=a+a;f=let x=2*3 in g x;h=g (2*3);");
        CHECKS.same("by empty ROWS not kept", NUMBER, q.run(1, 100, 1));
        CHECKS.same("value all the same", 12, q.value());
        counts(q, 12, 2, 1, 2, 0, 3, 0);
        CHECKS.same("ARGUMENTS are kept always", NUMBER, q.run(2, 100, 1));
        counts(q, 8, 2, 1, 1, 1, 3, 0);
        q.analyse();
        CHECKS.same("by right ROWS kept", NUMBER, q.run(1, 100, 1));
        counts(q, 9, 2, 1, 1, 1, 3, 0);
    }

    private static void testNotGiven() {
        UsageProofs p = Checks.of("k a b=a;f=k 1 (2+3);g a b=b;");
        p.analyse();
        CHECKS.same("mode 2", NUMBER, p.run(1, 100, 2));
        CHECKS.same("value", 1, p.value());
        counts(p, 5, 1, 2, 1, 1, 2, 0);
        p.plant(0, 0, 0, 0, 0);
        p.plant(0, 1, 0, 0, 0);
        CHECKS.same("what was told to be never needed", WRONG, p.run(1, 100, 2));
        CHECKS.same("value of WRONG", 0, p.value());
        counts(p, 4, 1, 2, 0, 0, 2, 0);
        counted(p, 1, 0);
        CHECKS.same("given in mode 1", NUMBER, p.run(1, 100, 1));
        p.argument(0, 3);
        p.argument(1, 4);
        CHECKS.same("the RUN's DEF too", WRONG, p.run(0, 100, 3));
        counts(p, 1, 1, 0, 0, 0, 0, 0);
        p.plant(0, 1, 0, 1, 0);
        CHECKS.same("USES by one ROW are enough", NUMBER, p.run(0, 100, 2));
        CHECKS.same("value", 3, p.value());
        CHECKS.same("second PARAMETER", NUMBER, p.run(2, 100, 2));
        CHECKS.same("value", 4, p.value());
    }

    private static void testNotGivenHandedOn() {
        UsageProofs p = Checks.of("f a=g a;g b=b+1;h a=split (a,1) as x,y in x;i a=(\\x.x) a;j a=let x=a in x;");
        p.analyse();
        for (int under = 0; under < 2; under++) {
            p.plant(0, under, 0, 0, 0);
            p.plant(2, under, 0, 0, 0);
            p.plant(3, under, 0, 0, 0);
            p.plant(4, under, 0, 0, 0);
        }
        p.argument(0, 5);
        CHECKS.same("handed on to a PARAMETER", WRONG, p.run(0, 100, 2));
        counts(p, 4, 1, 0, 0, 0, 1, 0);
        counted(p, 1, 1);
        CHECKS.same("handed on through a PAIR", WRONG, p.run(2, 100, 2));
        counts(p, 3, 1, 1, 0, 0, 1, 0);
        CHECKS.same("handed on to \\", WRONG, p.run(3, 100, 2));
        counts(p, 3, 1, 0, 0, 0, 1, 1);
        CHECKS.same("a CELL of let is made, its NAME is not given", WRONG, p.run(4, 100, 2));
        counts(p, 3, 2, 1, 1, 0, 1, 0);
        CHECKS.same("given in mode 0", NUMBER, p.run(0, 100, 0));
        CHECKS.same("value", 6, p.value());
    }

    private static void testHandedOn() {
        //                        f a 0, b 1; g c 2; h d 3, e 4
        UsageProofs p = Checks.of("f a b=g a+g a+b;g c=c+c;h d e=f d d+e;");
        p.argument(0, 1);
        p.argument(1, 1);
        ran(p, 2, NUMBER, 6);
        counted(p, 4, 1, 2, 5, 1);
        CHECKS.same("NEEDS", 6, p.count(1));
        ran(p, 1, NUMBER, 2);
        counted(p, 0, 0, 2, 0, 0);
        UsageProofs q = Checks.of("f=let x=1 in let y=x in y+y+x;");
        ran(q, 0, NUMBER, 3);
        counted(q, 2, 2);
        CHECKS.same("let makes a new CELL of a NAME", 2, q.count(2));
        CHECKS.same("KEPT in both", 2, q.count(4));
    }

    private static void testHandedOnThroughPairs() {
        //                        a 0, x 1, y 2, u 3, v 4
        UsageProofs p = Checks.of("f a=split (a,a+1) as x,y in split (x,y) as u,v in u+u+v+x;");
        p.argument(0, 10);
        ran(p, 0, NUMBER, 41);
        counted(p, 4, 3, 1, 2, 1);
        CHECKS.same("new CELLS", 1, p.count(2));
        CHECKS.same("NEEDS", 5, p.count(1));
        UsageProofs q = Checks.of("f=let p=(1+1,2) in (split p as x,y in x)+(split p as x,y in x+x);");
        ran(q, 0, NUMBER, 6);
        counted(q, 2, 1, 0, 2, 0);
    }

    private static void testPartialFunctions() {
        UsageProofs p = Checks.of("t a b c d=a+b*c-d;f=let g=t 1 2 3 in let h=t 1 in g 4+g 5+h 6 7 8;"
                + "k a b=a;m x=let g=k x in g 1+g 2;");
        ran(p, 1, NUMBER, 3 + 2 + 35);
        counted(p, 1, 1, 1, 1);
        p.argument(0, 9);
        ran(p, 3, NUMBER, 18);
        CHECKS.same("each call binds anew", 1, p.thing(6, 4));
        CHECKS.same("both were handed on from x", 2, p.thing(8, 4));
        UsageProofs q = Checks.of("a2 x y=x-y;f=(a2 5) 3;g=a2 5 3 1;h=let u=a2 in u 9 1+u 8 1;");
        ran(q, 1, NUMBER, 2);
        ran(q, 2, KIND, 0);
        ran(q, 3, NUMBER, 15);
    }

    private static void testCalls() {
        //                        g 0, \ 1, x 2; \ 3, y 4, \ 5, z 6
        UsageProofs p = Checks.of("f=let g=\\x.x+x in g 1+g 2+g 3;h=(\\y.\\z.y*z) 2 3;");
        ran(p, 0, NUMBER, 12);
        counted(p, 3, 3, 2, 0, 0, 0, 0);
        CHECKS.same("CALLS", 3, p.count(6));
        ran(p, 1, NUMBER, 6);
        counted(p, 0, 0, 0, 1, 1, 1, 1);
        CHECKS.same("CALLS", 2, p.count(6));
        UsageProofs q = Checks.of("m=\\x.x;f=m 1+m 2;");
        ran(q, 1, NUMBER, 3);
        CHECKS.same("two FUNCTIONS of one \\", 1, q.thing(0, 4));
        CHECKS.same("CALLS", 2, q.count(6));
    }

    private static void testSteps() {
        UsageProofs p = Checks.of("f=let x=1+2 in (\\y.y+x) 4;");
        ran(p, 0, NUMBER, 7);
        int all = p.count(0);
        CHECKS.same("all STEPS", 1 + 1 + 1 + 1 + 1 + 1 + 1 + 3, all);
        for (int steps = 0; steps < all; steps++) {
            CHECKS.same("too few STEPS", OUT, p.run(0, steps, 0));
            CHECKS.same("STEPS taken", steps, p.count(0));
        }
        CHECKS.same("enough STEPS", NUMBER, p.run(0, all, 0));
    }

    private static void testOutCountsCell() {
        UsageProofs p = Checks.of("f=let x=1 in x;");
        CHECKS.same("no STEP for the CELL's E", OUT, p.run(0, 2, 0));
        counts(p, 2, 1, 1, 1, 0, 1, 0);
        counted(p, 1);
        CHECKS.same("a STEP for it", NUMBER, p.run(0, 3, 0));
        counts(p, 3, 1, 1, 1, 1, 1, 0);
    }

    private static void testDeep() {
        UsageProofs p = Checks.of("d n=if n<1 then 0 else 1+d (n-1);f=1+f;");
        CHECKS.same("endless sum", DEEP, p.run(1, 10000, 0));
        CHECKS.same("value of DEEP", 0, p.value());
        // Each sum takes its own STEP, its left side's and its right side's; the 401st its own alone.
        counts(p, 400 * 3 + 1, 0, 0, 0, 0, 400, 0);
        CHECKS.same("just as many STEPS", DEEP, p.run(1, 1201, 0));
        CHECKS.same("one STEP less", OUT, p.run(1, 1200, 0));
        counts(p, 1200, 0, 0, 0, 0, 400, 0);
        // Below so many sums there wait if, <, a NEED and - as well.
        p.argument(0, 396);
        CHECKS.same("400 wait", NUMBER, p.run(0, 10000, 0));
        CHECKS.same("value", 396, p.value());
        CHECKS.same("most waited", 400, p.count(5));
        p.argument(0, 397);
        CHECKS.same("one more would", DEEP, p.run(0, 10000, 0));
        CHECKS.same("most waited", 400, p.count(5));
    }

    private static void testDeepNeed() {
        UsageProofs p = Checks.of("s n=if n<1 then z else 1+s (n-1);z=1+(1+(1+(1+(let x=1 in x))));");
        p.argument(0, 395);
        CHECKS.same("a NEED is the 400th that waits", NUMBER, p.run(0, 10000, 0));
        CHECKS.same("value", 400, p.value());
        CHECKS.same("CELLS that came to be EVALUATED", 396, p.count(3));
        p.argument(0, 396);
        CHECKS.same("a NEED would be the 401st", DEEP, p.run(0, 10000, 0));
        CHECKS.same("NEEDS, that one, too", 1 + 2 * 396 + 1, p.count(1));
        CHECKS.same("its CELL did not come to be EVALUATED", 396, p.count(3));
        CHECKS.same("values KEPT", 396, p.count(4));
        CHECKS.same("most waited", 400, p.count(5));
        CHECKS.same("COUNTED", 1, p.thing(1, 4));
        int steps = p.count(0);
        CHECKS.same("DEEP with no STEP left", DEEP, p.run(0, steps, 0));
        CHECKS.same("OUT with one less", OUT, p.run(0, steps - 1, 0));
    }

    private static void testWaits() {
        UsageProofs p = Checks.of("f=1+2+3;g=1+(2+3);h=if 1 then 2 else 3;i=split (1,2) as x,y in 3;j=(\\x.x) 1;"
                + "k=let x=1 in x;l=1;m=2;n=if if 1 then 1 else 1 then 1+1 else 0;o=i+i;");
        int[] due = {2, 2, 1, 1, 1, 1, 0, 0, 2, 2};
        for (int d = 0; d < due.length; d++) {
            p.run(d, 100, 0);
            CHECKS.same("waited in " + d, due[d], p.count(5));
        }
    }

    private static void testLatestRun() {
        UsageProofs p = Checks.of("f a=a*a;g=let x=1+1 in x+x;h=\\x.x;");
        p.argument(0, 6);
        ran(p, 0, NUMBER, 36);
        counts(p, 3, 2, 0, 0, 0, 1, 0);
        counted(p, 2, 0, 0, 0);
        ran(p, 1, NUMBER, 4);
        counts(p, 7, 2, 1, 1, 1, 3, 0);
        counted(p, 0, 2, 0, 0);
        p.analyse();
        p.check();
        p.plant(0, 0, 0, 2, 0);
        CHECKS.same("value stays", 4, p.value());
        counted(p, 0, 2, 0, 0);
        ran(p, 2, FUNCTION, 0);
        counts(p, 1, 0, 0, 0, 0, 0, 0);
        counted(p, 0, 0, 0, 0);
    }

    private static void testCountRefusals() {
        UsageProofs p = Checks.of("f=1;");
        counts(p, 0, 0, 0, 0, 0, 0, 0);
        CHECKS.same("count(-1)", BAD, p.count(-1));
        CHECKS.same("count(7)", BAD, p.count(7));
        CHECKS.same("count most", BAD, p.count(Integer.MAX_VALUE));
    }

    /** Runs that use up all STEPS, with what makes most bindings, cells and functions a STEP. */
    private static void testLongRuns() {
        UsageProofs p = Checks.of("l g=(\\x.l g) (g 4);t a b c d=w (t a b c);w g=g 1;f=w (t 1 2 3);"
                + "q=split (1+1,1+1) as x,y in q;r x=r x;s=let x=1 in s;u=(\\x.u2) 1;u2=u;v=v2 v2;v2 a=v;"
                + "z n=if n<1 then 0 else (\\x.z (n-1)) (n,n);");
        for (int d = 0; d < p.told(1); d++) {
            for (int mode = 0; mode < 4; mode++) {
                p.argument(0, 2000000);
                int outcome = p.run(d, 10000, mode);
                boolean ended = outcome == OUT || outcome == DEEP || outcome == KIND || outcome == WRONG;
                CHECKS.holds("a long run of " + d + " came to " + outcome, ended);
            }
        }
        CHECKS.same("calls of a FUNCTION with three ARGUMENTS", OUT, p.run(3, 10000, 0));
        CHECKS.same("all STEPS", 10000, p.count(0));
        CHECKS.same("PAIRS without end", OUT, p.run(4, 10000, 0));
        CHECKS.same("two CELLS in three STEPS", 6666, p.count(2));
    }
}
