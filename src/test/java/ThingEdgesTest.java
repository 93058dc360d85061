/** Promises 5, 6 and 15, at their edges: DEFS, THINGS, what is told. */
public final class ThingEdgesTest {
    private static final int NONE = UsageProofs.NONE;
    private static final int BAD = UsageProofs.BAD;
    private static final int[] FAR = {Integer.MIN_VALUE, -200, -2, 201, 256, 65536, Integer.MAX_VALUE};
    private static final Checks CHECKS = new Checks("ThingEdgesTest");

    public static void main(String[] args) {
        testDefNumbers();
        testDefWhat();
        testDefPlace();
        testThingNumbers();
        testThingWhat();
        testOrderOfTokens();
        testKinds();
        testThingsOfManyDefs();
        testUsesOfParameters();
        testUsesOfOthers();
        testUsesFollowTheRows();
        testUsesOfANewProgram();
        testCountedBeforeARun();
        testCountedOfTheLatestRun();
        testToldBytes();
        testToldDefsAndThings();
        testToldRounds();
        testToldWhat();
        CHECKS.end();
    }

    // ---- promise 5

    /** "DEFS are numbered 0, 1, ..", "NONE". */
    private static void testDefNumbers() {
        UsageProofs p = Checks.of("f=1;g a=1;");
        CHECKS.same("the first", 0, p.def(0, 0));
        CHECKS.same("the last", 1, p.def(1, 0));
        CHECKS.same("one more", NONE, p.def(2, 0));
        CHECKS.same("one less", NONE, p.def(-1, 0));
        for (int d : FAR) {
            CHECKS.same("DEF " + d, NONE, p.def(d, 0));
            CHECKS.same("DEF " + d, NONE, p.def(d, 1));
        }
        CHECKS.same("none at all", NONE, Checks.of("").def(0, 0));
    }

    /** "BAD", behind NONE. */
    private static void testDefWhat() {
        UsageProofs p = Checks.of(" f a b=1;");
        CHECKS.same("what 0", 2, p.def(0, 0));
        CHECKS.same("what 1", 1, p.def(0, 1));
        CHECKS.same("what 2", BAD, p.def(0, 2));
        CHECKS.same("what -1", BAD, p.def(0, -1));
        for (int what : FAR) {
            CHECKS.same("what " + what, BAD, p.def(0, what));
            CHECKS.same("NONE comes first", NONE, p.def(1, what));
            CHECKS.same("NONE comes first", NONE, p.def(-1, what));
        }
    }

    /** "the place of its NAME in its text". */
    private static void testDefPlace() {
        UsageProofs p = Checks.of("f=1;\n\n  gg=2; h a=3;");
        CHECKS.same("at the start", 0, p.def(0, 1));
        CHECKS.same("behind blanks", 8, p.def(1, 1));
        CHECKS.same("the last one", 14, p.def(2, 1));
        Checks.type(p, "      ");
        CHECKS.same("another text is typed", 8, p.def(1, 1));
        CHECKS.same("another text is no PROGRAM", -12, Checks.read(p, "        x"));
        CHECKS.same("its own text", 14, p.def(2, 1));
    }

    // ---- promise 6

    private static void testThingNumbers() {
        UsageProofs p = Checks.of("f a=\\x.x;");
        CHECKS.same("the first", 0, p.thing(0, 0));
        CHECKS.same("the last", 3, p.thing(2, 0));
        CHECKS.same("one more", NONE, p.thing(3, 0));
        CHECKS.same("one less", NONE, p.thing(-1, 0));
        for (int t : FAR) {
            for (int what = 0; what < 5; what++) {
                CHECKS.same("THING " + t, NONE, p.thing(t, what));
            }
        }
        CHECKS.same("none at all", NONE, Checks.of("f=1;").thing(0, 0));
        StringBuilder text = new StringBuilder("f=1");
        for (int i = 0; i < 100; i++) {
            text.append("+(\\x.1)");
        }
        UsageProofs full = Checks.of(text + ";");
        CHECKS.same("the 200th", 3, full.thing(199, 0));
        CHECKS.same("its place", text.length() - 4, full.thing(199, 2));
        CHECKS.same("its USES", 0, full.thing(199, 3));
        CHECKS.same("the 201st", NONE, full.thing(200, 0));
    }

    private static void testThingWhat() {
        UsageProofs p = Checks.of("f=1;g a=a;");
        p.plant(1, 0, 0, 2, 0);
        p.run(1, 1, 0);
        int[] due = {0, 1, 6, 2, 1};
        for (int what = 0; what < 5; what++) {
            CHECKS.same("what " + what, due[what], p.thing(0, what));
        }
        CHECKS.same("what 5", BAD, p.thing(0, 5));
        CHECKS.same("what -1", BAD, p.thing(0, -1));
        for (int what : FAR) {
            CHECKS.same("what " + what, BAD, p.thing(0, what));
            CHECKS.same("NONE comes first", NONE, p.thing(1, what));
        }
    }

    private static void thing(UsageProofs p, int t, int kind, int d, int where) {
        CHECKS.same("kind of " + t, kind, p.thing(t, 0));
        CHECKS.same("DEF of " + t, d, p.thing(t, 1));
        CHECKS.same("place of " + t, where, p.thing(t, 2));
    }

    /** "THINGS are numbered from 0 in the order of their tokens". */
    private static void testOrderOfTokens() {
        //                        0         1         2         3         4         5
        //                        0123456789012345678901234567890123456789012345678901234567
        UsageProofs p = Checks.of("f=split (let y=\\z.z in y) as u,v in let w=\\s.s in \\t.t;");
        int[] kinds = {1, 4, 3, 2, 2, 1, 4, 3, 4, 3};
        int[] places = {13, 15, 16, 29, 31, 40, 42, 43, 50, 51};
        CHECKS.same("THINGS", 10, p.told(2));
        for (int t = 0; t < 10; t++) {
            thing(p, t, kinds[t], 0, places[t]);
        }
        UsageProofs q = Checks.of("f=let x=let y=1 in 1 in 1;");
        thing(q, 0, 1, 0, 6);
        thing(q, 1, 1, 0, 12);
    }

    /** "of kind 0 a PARAMETER, 1 the NAME of let, 2 each of split, 3 the NAME of \, 4 the \ itself". */
    private static void testKinds() {
        UsageProofs p = Checks.of("f a=1;g=let b=1 in 1;h=split 1 as c,d in 1;i=\\e.1;");
        thing(p, 0, 0, 0, 2);
        thing(p, 1, 1, 1, 12);
        thing(p, 2, 2, 2, 34);
        thing(p, 3, 2, 2, 36);
        thing(p, 4, 4, 3, 45);
        thing(p, 5, 3, 3, 46);
        CHECKS.same("THINGS", 6, p.told(2));
    }

    private static void testThingsOfManyDefs() {
        StringBuilder text = new StringBuilder();
        for (int d = 0; d < 24; d++) {
            text.append((char) ('a' + d)).append("1 x y z w=1;");
        }
        UsageProofs p = Checks.of(text.toString());
        CHECKS.same("THINGS", 96, p.told(2));
        for (int t = 0; t < 96; t++) {
            thing(p, t, 0, t / 4, t / 4 * 13 + 3 + 2 * (t % 4));
        }
        CHECKS.same("no more", NONE, p.thing(96, 0));
    }

    /** "of kind 0 the greater COUNT of both ROWS". */
    private static void testUsesOfParameters() {
        UsageProofs p = Checks.of("f a b=1;");
        for (int zero = 0; zero <= 2; zero++) {
            for (int four = 0; four <= 2; four++) {
                p.plant(0, 0, 1, zero, 0);
                p.plant(0, 1, 1, four, four == 0 ? 0 : 4);
                CHECKS.same("USES by " + zero + " and " + four, Math.max(zero, four), p.thing(1, 3));
                CHECKS.same("USES of the other", 0, p.thing(0, 3));
            }
        }
    }

    /** "of kinds 1 to 3 the greatest COUNT with which it is TAKEN OUT, of kind 4 the most CALLS that it has (0, ..)". */
    private static void testUsesOfOthers() {
        // Under 0 a \ that is the DEF's E is not come to, under 4 it is CALLED many times.
        UsageProofs p = Checks.of("f=\\x.x+x;g=let y=1 in \\z.y;h=split (1,2) as u,v in \\w.v;i=(\\s.\\t.s) 1;");
        int[] due = {2, 2, 2, 2, 0, 0, 2, 2, 0, 1, 2, 2, 0};
        for (int t = 0; t < due.length; t++) {
            CHECKS.same("USES of " + t, due[t], p.thing(t, 3));
        }
        // CALLED once under both; and not come to at all.
        UsageProofs q = Checks.of("f=1+(\\x.x) 2;g=let y=\\z.z in 1;h=(let k=\\s.s in k 1)*2;");
        int[] once = {1, 1, 0, 0, 0, 1, 1, 1};
        for (int t = 0; t < once.length; t++) {
            CHECKS.same("USES of " + t, once[t], q.thing(t, 3));
        }
        // Under 0 CALLED once, under 4 many times: the most counts.
        UsageProofs r = Checks.of("f=let k=\\s.\\t.s in k 1;g=let y=2 in (\\c.c y y);");
        CHECKS.same("let", 1, r.thing(0, 3));
        CHECKS.same("its \\, CALLED many times under 4", 2, r.thing(1, 3));
        CHECKS.same("the NAME of that \\", 2, r.thing(2, 3));
        CHECKS.same("\\ inside", 2, r.thing(3, 3));
    }

    /** "by the ROWS as they are". */
    private static void testUsesFollowTheRows() {
        UsageProofs p = Checks.of("g a=1;f=let x=1 in 1+g x;h=1+g (\\y.y);");
        int[][] uses = {{0, 0}, {1, 0}, {1, 1}, {2, 0}, {2, 4}, {0, 0}};
        int[] calls = {0, 0, 1, 0, 2, 0};
        for (int i = 0; i < uses.length; i++) {
            p.plant(0, 0, 0, uses[i][0], uses[i][1]);
            CHECKS.same("USES of let", uses[i][0], p.thing(1, 3));
            CHECKS.same("CALLS", calls[i], p.thing(2, 3));
        }
        UsageProofs q = Checks.of("g a=a+a;f=let x=1 in g x;");
        CHECKS.same("at first", 0, q.thing(1, 3));
        q.check();
        CHECKS.same("check changes no ROW", 0, q.thing(1, 3));
        q.analyse();
        CHECKS.same("behind analyse", 2, q.thing(1, 3));
        q.run(1, 100, 3);
        CHECKS.same("a RUN changes no ROW", 2, q.thing(1, 3));
    }

    /** USES are of the PROGRAM as it is, also when those of another one were asked for just before. */
    private static void testUsesOfANewProgram() {
        UsageProofs p = Checks.of("f=let x=1 in x;");
        CHECKS.same("once", 1, p.thing(0, 3));
        CHECKS.same("read", 1, Checks.read(p, "f=let x=1 in 2;"));
        CHECKS.same("never", 0, p.thing(0, 3));
        CHECKS.same("read", 1, Checks.read(p, "f=let x=1 in x+x;"));
        CHECKS.same("many times", 2, p.thing(0, 3));
        CHECKS.same("no PROGRAM", -12, Checks.read(p, "f=let x=1 in x"));
        CHECKS.same("many times still", 2, p.thing(0, 3));
        CHECKS.same("run", 0, p.run(0, 100, 3));
        CHECKS.same("read", 1, Checks.read(p, "f=let x=1 in x;"));
        CHECKS.same("run", 0, p.run(0, 100, 3));
        CHECKS.same("not KEPT", 0, p.count(4));
        CHECKS.same("read", 1, Checks.read(p, "f=let x=1 in x+x;"));
        CHECKS.same("run", 0, p.run(0, 100, 3));
        CHECKS.same("KEPT", 1, p.count(4));
    }

    /** "(0 before a RUN of this PROGRAM)". */
    private static void testCountedBeforeARun() {
        UsageProofs p = Checks.of("f a=let x=a in (\\y.y) x;");
        p.analyse();
        for (int t = 0; t < 4; t++) {
            CHECKS.same("before", 0, p.thing(t, 4));
        }
        p.run(0, 100, 0);
        for (int t = 0; t < 4; t++) {
            CHECKS.same("behind it", 1, p.thing(t, 4));
        }
        CHECKS.same("a RUN that is refused", BAD, p.run(0, 100, 4));
        CHECKS.same("changes nothing", 1, p.thing(0, 4));
        CHECKS.same("the text again", 1, Checks.read(p, "f a=let x=a in (\\y.y) x;"));
        for (int t = 0; t < 4; t++) {
            CHECKS.same("before a RUN of this PROGRAM", 0, p.thing(t, 4));
        }
    }

    private static void testCountedOfTheLatestRun() {
        UsageProofs p = Checks.of("f a=a+a+a;g b=b;");
        p.run(0, 100, 0);
        CHECKS.same("COUNTED", 3, p.thing(0, 4));
        CHECKS.same("COUNTED", 0, p.thing(1, 4));
        p.run(1, 100, 0);
        CHECKS.same("COUNTED", 0, p.thing(0, 4));
        CHECKS.same("COUNTED", 1, p.thing(1, 4));
        p.run(0, 4, 0);
        CHECKS.same("COUNTED up to its end", 2, p.thing(0, 4));
        p.run(0, 0, 0);
        CHECKS.same("COUNTED without STEPS", 0, p.thing(0, 4));
        CHECKS.same("COUNTED without STEPS", 0, p.thing(1, 4));
    }

    // ---- promise 15

    /** "What = 0 bytes of THE TEXT". */
    private static void testToldBytes() {
        UsageProofs p = new UsageProofs();
        CHECKS.same("empty", 0, p.told(0));
        for (int i = 1; i <= 250; i++) {
            p.type(0x2020202020202020L, 8);
            if (i == 1 || i == 32 || i == 249 || i == 250) {
                CHECKS.same("bytes", 8 * i, p.told(0));
            }
        }
        p.type(0, 1);
        CHECKS.same("full", 2000, p.told(0));
        p.read();
        CHECKS.same("read", 0, p.told(0));
    }

    /** "1 DEFS, 2 THINGS". */
    private static void testToldDefsAndThings() {
        UsageProofs p = new UsageProofs();
        Checks.type(p, "f a=\\x.x;g=1;");
        CHECKS.same("DEFS before read()", 0, p.told(1));
        CHECKS.same("THINGS before read()", 0, p.told(2));
        p.read();
        CHECKS.same("DEFS", 2, p.told(1));
        CHECKS.same("THINGS", 3, p.told(2));
        Checks.read(p, "h=");
        CHECKS.same("DEFS of the PROGRAM that stays", 2, p.told(1));
        CHECKS.same("THINGS of the PROGRAM that stays", 3, p.told(2));
        p.read();
        CHECKS.same("DEFS of an empty one", 0, p.told(1));
        CHECKS.same("THINGS of an empty one", 0, p.told(2));
    }

    /** "3 ROUNDS of the latest analyse() of this PROGRAM (0 before)". */
    private static void testToldRounds() {
        UsageProofs p = Checks.of("f a=g a;g a=a;");
        CHECKS.same("before", 0, p.told(3));
        p.check();
        CHECKS.same("check is no analyse", 0, p.told(3));
        CHECKS.same("analyse", 3, p.analyse());
        CHECKS.same("told", 3, p.told(3));
        p.plant(1, 0, 0, 0, 0);
        p.run(0, 100, 3);
        p.check();
        Checks.read(p, "?");
        CHECKS.same("other calls change it not", 3, p.told(3));
        CHECKS.same("analyse", 2, p.analyse());
        CHECKS.same("the latest", 2, p.told(3));
        CHECKS.same("analyse", 1, p.analyse());
        CHECKS.same("the latest", 1, p.told(3));
        CHECKS.same("read", 1, Checks.read(p, "f=1;"));
        CHECKS.same("before one of this PROGRAM", 0, p.told(3));
        p.read();
        CHECKS.same("before one of none", 0, p.told(3));
        p.analyse();
        CHECKS.same("one of none", 1, p.told(3));
    }

    /** "BAD". */
    private static void testToldWhat() {
        UsageProofs p = Checks.of("f a=1;");
        p.analyse();
        int[] due = {0, 1, 1, 1};
        for (int what = 0; what < 4; what++) {
            CHECKS.same("told(" + what + ")", due[what], p.told(what));
        }
        CHECKS.same("told(4)", BAD, p.told(4));
        CHECKS.same("told(-1)", BAD, p.told(-1));
        for (int what : FAR) {
            CHECKS.same("told(" + what + ")", BAD, p.told(what));
        }
    }
}
