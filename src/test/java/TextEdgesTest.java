/** Promises 1 to 4 and the tokens, at their edges: a test for each sentence of the document that names one. */
public final class TextEdgesTest {
    private static final int NONE = UsageProofs.NONE;
    private static final int BAD = UsageProofs.BAD;
    private static final int FULL = UsageProofs.FULL;
    private static final long BLANKS = 0x2020202020202020L;
    private static final String SIGNS = "(),=;\\.+-*<";
    private static final String[] WORDS = {"let", "in", "if", "then", "else", "split", "as"};
    private static final Checks CHECKS = new Checks("TextEdgesTest");

    public static void main(String[] args) {
        testNewObject();
        testArgumentsOfANewObject();
        testLastOf512Calls();
        testAtMost2000Bytes();
        testFullTakesNoPart();
        testFullTextIsEmptied();
        testFullTextIsRead();
        testDensestText();
        testPlacesFrom0();
        testLowestBytesHighestFirst();
        testBytesAbove127();
        testTypeNothingEmpties();
        testTypeBad();
        testReadEmpty();
        testReadEmptiesTheText();
        testReadAnswers();
        testFailedReadKeepsAll();
        testGoodReadDropsAll();
        testSameTextReadAgain();
        testPlace();
        testEveryByteAlone();
        testEveryByteBehindAName();
        testEveryByteBehindANumber();
        testNamesOf8();
        testNamesDiffer();
        testNumbersOf9();
        testTokensAsLongAsCanBe();
        testBlanks();
        testWordsAreNoNames();
        testAlmostWordsAreNames();
        CHECKS.end();
    }

    private static UsageProofs filled(String text, int length) {
        UsageProofs p = new UsageProofs();
        Checks.type(p, text + Checks.repeat(" ", length - text.length()));
        CHECKS.same("told(0) of " + length, length, p.told(0));
        return p;
    }

    private static int valueOf(UsageProofs p, int d) {
        CHECKS.same("run(" + d + ")", 0, p.run(d, 10000, 0));
        return p.value();
    }

    private static int valueOf(String text) {
        return valueOf(Checks.of(text), 0);
    }

    // ---- promise 1

    /** "No text, no DEFS". */
    private static void testNewObject() {
        UsageProofs p = new UsageProofs();
        CHECKS.same("bytes", 0, p.told(0));
        CHECKS.same("DEFS", 0, p.told(1));
        CHECKS.same("THINGS", 0, p.told(2));
        CHECKS.same("ROUNDS", 0, p.told(3));
        CHECKS.same("place", NONE, p.place());
        CHECKS.same("DEF 0", NONE, p.def(0, 0));
        CHECKS.same("THING 0", NONE, p.thing(0, 0));
        CHECKS.same("row", NONE, p.row(0, 0, 0, 0));
        CHECKS.same("plant", NONE, p.plant(0, 0, 0, 1, 0));
        CHECKS.same("run", NONE, p.run(0, 100, 0));
        CHECKS.same("check", 1, p.check());
        CHECKS.same("analyse", 1, p.analyse());
        CHECKS.same("value", 0, p.value());
        CHECKS.same("its text is typed from its start", 1, p.type(' ', 1));
    }

    /** "all argument(i) are 0". */
    private static void testArgumentsOfANewObject() {
        UsageProofs p = Checks.of("f a b c d=if a then 1 else if b then 2 else if c then 3 else if d then 4 else 5;");
        CHECKS.same("no ARGUMENT was told", 5, valueOf(p, 0));
        for (int i = 0; i < 4; i++) {
            CHECKS.same("argument(" + i + ")", 0, p.argument(i, 0));
        }
    }

    /** "An object is used for at most 512 calls": so many are answered rightly. */
    private static void testLastOf512Calls() {
        UsageProofs p = new UsageProofs();
        for (int call = 1; call <= 250; call++) {
            CHECKS.same("call " + call, 8 * call, p.type(BLANKS, 8));
        }
        CHECKS.same("call 251", 0, p.read());
        for (int call = 252; call <= 500; call++) {
            CHECKS.same("call " + call, 8 * (call - 251), p.type(BLANKS, 8));
        }
        CHECKS.same("call 501", 2000, p.type(0x6620613d612b613bL, 8));
        CHECKS.same("call 502", FULL, p.type(0x20, 1));
        CHECKS.same("call 503", 1, p.read());
        CHECKS.same("call 504", 2, p.analyse());
        CHECKS.same("call 505", 1, p.check());
        CHECKS.same("call 506", 2, p.row(0, 0, 0, 0));
        CHECKS.same("call 507", 0, p.argument(0, 21));
        CHECKS.same("call 508", 0, p.run(0, 3, 3));
        CHECKS.same("call 509", 42, p.value());
        CHECKS.same("call 510", 3, p.count(0));
        CHECKS.same("call 511", 1994, p.thing(0, 2));
        CHECKS.same("call 512", 2, p.thing(0, 4));
    }

    // ---- promise 2

    /** "THE TEXT has at most 2000 bytes", "FULL": by each n the last that has room, and the first that has none. */
    private static void testAtMost2000Bytes() {
        for (int n = 1; n <= 8; n++) {
            UsageProofs p = filled("", 2000 - n);
            CHECKS.same("the last " + n + " bytes", 2000, p.type(BLANKS, n));
            CHECKS.same("told(0)", 2000, p.told(0));
            CHECKS.same("one more", FULL, p.type(BLANKS, 1));
            UsageProofs q = filled("", 2001 - n);
            CHECKS.same(n + " bytes, one too many", FULL, q.type(BLANKS, n));
            CHECKS.same("told(0)", 2001 - n, q.told(0));
            if (n > 1) {
                CHECKS.same("one less has room", 2000, q.type(BLANKS, n - 1));
            }
        }
    }

    private static void testFullTakesNoPart() {
        UsageProofs p = filled("f=1;", 1993);
        CHECKS.same("eight bytes", FULL, p.type(0x3f3f3f3f3f3f3f3fL, 8));
        CHECKS.same("seven bytes", 2000, p.type(BLANKS, 7));
        CHECKS.same("FULL", FULL, p.type(0x3f, 1));
        CHECKS.same("FULL", FULL, p.type(0x3f3f3f3f3f3f3f3fL, 8));
        CHECKS.same("told(0)", 2000, p.told(0));
        CHECKS.same("nothing of them is read", 1, p.read());
    }

    private static void testFullTextIsEmptied() {
        UsageProofs p = filled("?", 2000);
        CHECKS.same("FULL", FULL, p.type(0x20, 1));
        CHECKS.same("emptied", 0, p.type(-1, 0));
        CHECKS.same("told(0)", 0, p.told(0));
        CHECKS.same("it has room again", 8, p.type(0x2020663d373b2020L, 8));
        CHECKS.same("what was typed before is gone", 1, p.read());
        CHECKS.same("its place", 2, p.def(0, 1));
    }

    private static void testFullTextIsRead() {
        String text = "f=" + Checks.repeat(" ", 1996) + "7;";
        UsageProofs p = new UsageProofs();
        CHECKS.same("read", 1, Checks.read(p, text));
        CHECKS.same("value", 7, valueOf(p, 0));
        CHECKS.same("it has room again", 1, p.type(0x20, 1));
    }

    /** 2000 bytes with as many NODES as they can have, all of which count. */
    private static void testDensestText() {
        String calls = "f a=" + Checks.repeat("1a ", 664) + "1a; ";
        UsageProofs p = new UsageProofs();
        CHECKS.same("bytes", 2000, calls.length());
        CHECKS.same("read", 1, Checks.read(p, calls));
        CHECKS.same("analyse", 2, p.analyse());
        CHECKS.same("USES", 2, p.thing(0, 3));
        CHECKS.same("a long APPLICATION is DEEP", 5, p.run(0, 10000, 0));
        CHECKS.same("STEPS", 401, p.count(0));
        String sums = "f a=(" + Checks.repeat("1+", 390) + "a)+(" + Checks.repeat("1-", 390) + "a)*2+0*(" + Checks.repeat("1*", 200) + "a);";
        UsageProofs q = Checks.of(sums + Checks.repeat(" ", 2000 - sums.length()));
        q.argument(0, 5);
        CHECKS.same("a long sum", 395 + 2 * (1 - 389 - 5), valueOf(q, 0));
        CHECKS.same("USES", 0, q.thing(0, 3));
        q.analyse();
        CHECKS.same("USES", 2, q.thing(0, 3));
    }

    /** "places from 0". */
    private static void testPlacesFrom0() {
        CHECKS.fault("?", 1, 0);
        CHECKS.fault("1", 2, 0);
        CHECKS.fault("f?", 1, 1);
        CHECKS.fault(Checks.repeat(" ", 1999) + "?", 1, 1999);
        CHECKS.fault("f=1" + Checks.repeat("\n", 1997), 2, 2000);
        CHECKS.fault(Checks.repeat(" ", 1996) + "f=1+", 2, 2000);
        UsageProofs p = Checks.of("f a=1;" + Checks.repeat(" ", 1988) + "g b=1;");
        CHECKS.same("the first DEF", 0, p.def(0, 1));
        CHECKS.same("its PARAMETER", 2, p.thing(0, 2));
        CHECKS.same("the last DEF", 1994, p.def(1, 1));
        CHECKS.same("its PARAMETER", 1996, p.thing(1, 2));
    }

    /** "The n lowest bytes of v, the highest first, come behind THE TEXT". */
    private static void testLowestBytesHighestFirst() {
        long all = 0x663d31323334353bL;
        for (int n = 1; n <= 8; n++) {
            UsageProofs p = new UsageProofs();
            long above = n == 8 ? 0 : 0x3f3f3f3f3f3f3f3fL << 8 * n;
            CHECKS.same("the first " + n, n, p.type(above | all >>> 64 - 8 * n, n));
            if (n < 8) {
                CHECKS.same("the others", 8, p.type(0x3f3f3f3f3f3f3f3fL << 64 - 8 * n | all << 8 * n >>> 8 * n, 8 - n));
            }
            CHECKS.same("read", 1, p.read());
            CHECKS.same("value", 12345, valueOf(p, 0));
        }
    }

    private static void testBytesAbove127() {
        for (int n = 1; n <= 8; n++) {
            UsageProofs p = new UsageProofs();
            CHECKS.same("bytes 255", n, p.type(-1L, n));
            CHECKS.same("read", -11, p.read());
            CHECKS.same("place", 0, p.place());
        }
        UsageProofs p = new UsageProofs();
        CHECKS.same("the highest byte alone", 8, p.type(0x8020202020202020L, 8));
        CHECKS.same("read", -11, p.read());
        CHECKS.same("place", 0, p.place());
        CHECKS.same("the lowest byte alone", 8, p.type(0x2020202020202080L, 8));
        CHECKS.same("read", -11, p.read());
        CHECKS.same("place", 7, p.place());
    }

    /** "n = 0: it is empty: 0". */
    private static void testTypeNothingEmpties() {
        UsageProofs p = new UsageProofs();
        CHECKS.same("empty already", 0, p.type(0, 0));
        CHECKS.same("typed", 3, p.type(0x663d3fL, 3));
        CHECKS.same("emptied, whatever v", 0, p.type(0x3f3f, 0));
        CHECKS.same("told(0)", 0, p.told(0));
        CHECKS.same("emptied again", 0, p.type(0, 0));
        CHECKS.same("typed anew", 4, p.type(0x663d373bL, 4));
        CHECKS.same("read", 1, p.read());
        CHECKS.same("value", 7, valueOf(p, 0));
        CHECKS.same("the PROGRAM stays", 0, p.type(0, 0));
        CHECKS.same("told(1)", 1, p.told(1));
        CHECKS.same("its RUN too", 7, p.value());
    }

    /** "BAD n is not 0 .. 8". */
    private static void testTypeBad() {
        for (int n : new int[] {-1, 9, -8, 16, 256, 1 << 31, Integer.MAX_VALUE}) {
            UsageProofs p = new UsageProofs();
            p.type(0x663dL, 2);
            CHECKS.same("n is " + n, BAD, p.type(0x3f, n));
            CHECKS.same("told(0)", 2, p.told(0));
            p.type(0x373bL, 2);
            CHECKS.same("read", 1, p.read());
            CHECKS.same("BAD comes ahead of FULL", BAD, filled("", 2000).type(BLANKS, n));
        }
        CHECKS.same("n is 8", 8, new UsageProofs().type(BLANKS, 8));
        CHECKS.same("n is 1", 1, new UsageProofs().type(BLANKS, 1));
    }

    // ---- promise 3

    /** "PROGRAM: { DEF }": none, too. */
    private static void testReadEmpty() {
        CHECKS.good("", 0);
        CHECKS.good(" ", 0);
        CHECKS.good("\n", 0);
        CHECKS.good(Checks.repeat(" \n", 1000), 0);
        UsageProofs p = Checks.of("f a=a;");
        CHECKS.same("nothing becomes the PROGRAM", 0, p.read());
        CHECKS.same("DEFS", 0, p.told(1));
        CHECKS.same("THINGS", 0, p.told(2));
        CHECKS.same("DEF 0", NONE, p.def(0, 0));
        CHECKS.same("THING 0", NONE, p.thing(0, 0));
        CHECKS.same("run", NONE, p.run(0, 10, 0));
        CHECKS.same("check", 1, p.check());
        CHECKS.same("analyse", 1, p.analyse());
        CHECKS.same("told(3)", 1, p.told(3));
    }

    /** "and is empty then (right or not)". */
    private static void testReadEmptiesTheText() {
        UsageProofs p = new UsageProofs();
        CHECKS.same("right", 1, Checks.read(p, "f=1;"));
        CHECKS.same("told(0)", 0, p.told(0));
        CHECKS.same("typed from the start", 4, p.type(0x673d323bL, 4));
        CHECKS.same("read", 1, p.read());
        CHECKS.same("its place", 0, p.def(0, 1));
        String[] wrong = {"?", "f", "f=x;", "f=1;f=2;", "f a b c d e=1;"};
        for (int i = 0; i < wrong.length; i++) {
            CHECKS.same("wrong", -11 - i, Checks.read(p, wrong[i]));
            CHECKS.same("told(0) behind " + wrong[i], 0, p.told(0));
            CHECKS.same("typed from the start", 4, p.type(0x673d323bL, 4));
            CHECKS.same("read", 1, p.read());
        }
    }

    /** "how many DEFS; -10 less the FAULT". */
    private static void testReadAnswers() {
        StringBuilder text = new StringBuilder();
        for (int defs = 0; defs <= 24; defs++) {
            CHECKS.good(text.toString(), defs);
            text.append('f').append(defs).append("=1;");
        }
        CHECKS.fault("f=1;?", 1, 4);
        CHECKS.fault("f=1;=", 2, 4);
        CHECKS.fault("f=1;g=h;", 3, 6);
        CHECKS.fault("f=1;f=1;", 4, 4);
        CHECKS.fault(text.toString(), 5, text.length() - "f24=1;".length());
    }

    /** "the PROGRAM that was there stays, with its ROWS and its latest RUN". */
    private static void testFailedReadKeepsAll() {
        String[] wrong = {"?", "g x y=1", "g x y=x;h=z;", "g=1;g=2;", "g a b c d e=1;", "g x y=(\\x.\\y.x;"};
        int[] due = {-11, -12, -13, -14, -15, -12};
        for (int i = 0; i < wrong.length; i++) {
            UsageProofs p = Checks.of("f a b=let x=a+b in x*x;h c=f c 2;");
            p.analyse();
            p.plant(1, 0, 0, 2, 3);
            p.argument(0, 3);
            p.run(1, 100, 0);
            CHECKS.same("value", 25, p.value());
            String before = Checks.answers(p);
            CHECKS.same("read " + wrong[i], due[i], Checks.read(p, wrong[i]));
            CHECKS.alike("all answers behind " + wrong[i], before, Checks.answers(p));
            CHECKS.same("it runs as before", 25, valueOf(p, 1));
        }
        UsageProofs fresh = new UsageProofs();
        CHECKS.same("read at first", -12, Checks.read(fresh, "f a=a;g"));
        CHECKS.same("no DEFS", 0, fresh.told(1));
        CHECKS.same("no THINGS", 0, fresh.told(2));
        CHECKS.same("no run", NONE, fresh.run(0, 10, 0));
    }

    /** "THE TEXT becomes the PROGRAM": of the one before nothing stays; ROWS are "all none at first". */
    private static void testGoodReadDropsAll() {
        UsageProofs p = Checks.of("f a b=a+b*b;g c=f c 2;h=\\x.x;");
        p.analyse();
        p.argument(0, 3);
        p.argument(1, 4);
        CHECKS.same("value", 19, valueOf(p, 0));
        CHECKS.same("read", 2, Checks.read(p, " k d=d;l=7;"));
        CHECKS.same("DEFS", 2, p.told(1));
        CHECKS.same("THINGS", 1, p.told(2));
        CHECKS.same("ROUNDS", 0, p.told(3));
        CHECKS.same("PARAMETERS", 1, p.def(0, 0));
        CHECKS.same("place of the DEF", 1, p.def(0, 1));
        CHECKS.same("DEF 2", NONE, p.def(2, 0));
        CHECKS.same("THING 1", NONE, p.thing(1, 0));
        CHECKS.same("COUNT under 0", 0, p.row(0, 0, 0, 0));
        CHECKS.same("COUNT under 4", 0, p.row(0, 1, 0, 0));
        CHECKS.same("PARAMETER 1", NONE, p.row(0, 0, 1, 0));
        CHECKS.same("USES", 0, p.thing(0, 3));
        CHECKS.same("COUNTED", 0, p.thing(0, 4));
        CHECKS.same("value", 0, p.value());
        for (int what = 0; what < 7; what++) {
            CHECKS.same("count(" + what + ")", 0, p.count(what));
        }
        CHECKS.same("check", -100, p.check());
        CHECKS.same("argument(0) stays", 3, valueOf(p, 0));
        CHECKS.same("argument(1) stays", 4, p.argument(1, 0));
    }

    private static void testSameTextReadAgain() {
        UsageProofs p = Checks.of("f a=a;");
        p.analyse();
        p.run(0, 10, 0);
        CHECKS.same("read", 1, Checks.read(p, "f a=a;"));
        CHECKS.same("its ROWS are none", -100, p.check());
        CHECKS.same("its USES", 0, p.thing(0, 3));
        CHECKS.same("its COUNTED", 0, p.thing(0, 4));
        CHECKS.same("no ROUNDS yet", 0, p.told(3));
        CHECKS.same("analyse", 2, p.analyse());
    }

    // ---- promise 4

    /** "The place of the FAULT of the latest read(); NONE, if it had none, or before." */
    private static void testPlace() {
        UsageProofs p = new UsageProofs();
        CHECKS.same("before", NONE, p.place());
        Checks.type(p, "f=1;?");
        CHECKS.same("typed is not read", NONE, p.place());
        CHECKS.same("read", -11, p.read());
        CHECKS.same("place", 4, p.place());
        Checks.type(p, "f=)");
        CHECKS.same("typing changes it not", 4, p.place());
        CHECKS.same("read", -12, p.read());
        CHECKS.same("the latest read()", 2, p.place());
        p.type(0, 0);
        p.analyse();
        p.check();
        p.argument(0, 1);
        CHECKS.same("other calls change it not", 2, p.place());
        CHECKS.same("read", -13, Checks.read(p, "f=1;g=f h;"));
        CHECKS.same("place of FAULT 3", 8, p.place());
        CHECKS.same("a good read", 1, Checks.read(p, "f=1;"));
        CHECKS.same("it had none", NONE, p.place());
        CHECKS.same("read", -12, Checks.read(p, ";"));
        CHECKS.same("place 0", 0, p.place());
        CHECKS.same("read nothing", 0, p.read());
        CHECKS.same("it had none", NONE, p.place());
    }

    // ---- tokens

    private static char sortOf(int b) {
        if (b == 32 || b == 10) {
            return ' ';
        }
        if (b >= 'a' && b <= 'z') {
            return 'n';
        }
        if (b >= '0' && b <= '9') {
            return 'd';
        }
        return SIGNS.indexOf(b) >= 0 ? 's' : '?';
    }

    private static void is(String text, int fault, int where) {
        if (fault == 0) {
            CHECKS.good(text, text.trim().isEmpty() ? 0 : 1);
        } else {
            CHECKS.fault(text, fault, where);
        }
    }

    /** Which bytes are blanks, letters, figures, SIGNS; "1 no token begins there". */
    private static void testEveryByteAlone() {
        for (int b = 0; b < 256; b++) {
            String text = String.valueOf((char) b);
            switch (sortOf(b)) {
                case ' ': CHECKS.good(text, 0); break;
                case 'n': CHECKS.fault(text, 2, 1); break;
                case '?': CHECKS.fault(text, 1, 0); break;
                default: CHECKS.fault(text, 2, 0); break;
            }
        }
    }

    private static void testEveryByteBehindAName() {
        for (int b = 0; b < 256; b++) {
            String text = "f" + (char) b + "=1;";
            switch (sortOf(b)) {
                case '?': is(text, 1, 1); break;
                case 's': is(text, 2, b == '=' ? 2 : 1); break;
                default: is(text, 0, 0); break;
            }
        }
    }

    private static void testEveryByteBehindANumber() {
        for (int b = 0; b < 256; b++) {
            String text = "f=1" + (char) b + ";";
            switch (sortOf(b)) {
                case '?': is(text, 1, 3); break;
                case 's': is(text, 2, ";+-*<(".indexOf(b) >= 0 ? 4 : 3); break;
                case 'n': is(text, b == 'f' ? 0 : 3, 3); break;
                default: is(text, 0, 0); break;
            }
        }
    }

    /** "NAMES (a letter a .. z, then letters and figures 0 .. 9; 8 at most)", "or it is too long". */
    private static void testNamesOf8() {
        String[] texts = {"%=1;", "f %=1;", "f=let %=1 in 1;", "f=\\%.1;", "f=split 1 as %,y in 1;",
            "f=split 1 as y,% in 1;", "f=%;", "f=1 %;", "f=(%);"};
        for (String text : texts) {
            for (String name : new String[] {"abcdefgh", "z", "a0000000", "z9999999", "q1w2e3r4"}) {
                String all = text.replace("%", name);
                boolean used = text.equals("f=%;") || text.equals("f=1 %;") || text.equals("f=(%);");
                CHECKS.good(used ? all + name + "=1;" : all, used ? 2 : 1);
            }
            for (String name : new String[] {"abcdefghi", "a00000000", "thenthens", Checks.repeat("x", 300)}) {
                CHECKS.fault(text.replace("%", name), 1, text.indexOf('%'));
            }
        }
        CHECKS.fault("9f=1;", 2, 0);
        CHECKS.fault("f 9a=1;", 2, 2);
    }

    /** All eight letters count. */
    private static void testNamesDiffer() {
        for (int i = 0; i < 8; i++) {
            StringBuilder other = new StringBuilder("aaaaaaaa");
            other.setCharAt(i, 'b');
            CHECKS.same("NAMES that differ at " + i, 2, valueOf("f=" + other + ";aaaaaaaa=1;" + other + "=2;"));
            CHECKS.fault("f=" + other + ";aaaaaaaa=1;", 3, 2);
        }
        for (int size = 2; size <= 8; size++) {
            String longer = Checks.repeat("a", size);
            CHECKS.same("NAMES of " + size, 1, valueOf("f=" + longer + ";" + longer + "=1;" + longer.substring(1) + "=2;"));
        }
        CHECKS.fault("aaaaaaaa=1;aaaaaaaa=2;", 4, 11);
    }

    /** "NUMBERS (figures, 9 at most)". */
    private static void testNumbersOf9() {
        String[] numbers = {"0", "9", "000000000", "000000007", "999999999", "100000000", "123456789"};
        int[] due = {0, 9, 0, 7, 999999999, 100000000, 123456789};
        for (int i = 0; i < numbers.length; i++) {
            CHECKS.same("NUMBER " + numbers[i], due[i], valueOf("f=" + numbers[i] + ";"));
        }
        for (String number : new String[] {"0000000000", "0000000007", "1000000000", "2147483647", "9999999999",
            Checks.repeat("1", 300)}) {
            CHECKS.fault("f=" + number + ";", 1, 2);
            CHECKS.fault("f=1+(2," + number, 1, 7);
        }
    }

    /** "each as long as can be". */
    private static void testTokensAsLongAsCanBe() {
        CHECKS.good("f=123456789g;g=1;", 2);
        CHECKS.good("f=1 2 3 4 5 6 7 8 9 0;", 1);
        CHECKS.good("f=let x=1in x;", 1);
        CHECKS.good("f=if 1then 2else 3;", 1);
        CHECKS.good("f=split 1as x,y in 1;", 1);
        CHECKS.fault("f=let x=1 inx;", 2, 13);
        CHECKS.fault("f=letx=1 in x;", 2, 6);
        CHECKS.fault("f x=ifx;", 3, 4);
        CHECKS.same("x1 is one NAME", 4, valueOf("f=x1;x=3;x1=4;"));
        CHECKS.same("x 1 are two tokens", 3, Checks.of("f=x 1;x=3;x1=4;").run(0, 10, 0));
        CHECKS.fault("f=1x1;", 3, 3);
        CHECKS.same("two of it are no other SIGN", -12, Checks.read(new UsageProofs(), "f=1<<2;"));
    }

    /** "with blanks (32, 10) between them where one likes". */
    private static void testBlanks() {
        String[] tokens = {"f", "a", "=", "let", "x", "=", "(", "\\", "y", ".", "y", "*", "2", ")", "a", "in", "split", "(",
            "x", ",", "1", ")", "as", "u", ",", "v", "in", "if", "u", "<", "v", "then", "u", "else", "u", "-", "v", "+", "x", ";"};
        for (String blank : new String[] {" ", "\n", " \n", "\n\n   \n"}) {
            String text = blank + String.join(blank, tokens) + blank;
            UsageProofs p = Checks.of(text);
            p.argument(0, 5);
            CHECKS.same("value of " + text, 19, valueOf(p, 0));
        }
        UsageProofs p = Checks.of("f a=let x=(\\y.y*2)a in split(x,1)as u,v in if u<v then u else u-v+x;");
        p.argument(0, 5);
        CHECKS.same("value without those that none needs", 19, valueOf(p, 0));
        for (String other : new String[] {"\t", "\r", "\0", "\u000b", "\f", "\u001f", "!", "\u0085", "\u00a0"}) {
            CHECKS.fault("f=1" + other + ";", 1, 3);
        }
    }

    /** "The NAMES let in if then else split as are WORDS, and no NAMES else." */
    private static void testWordsAreNoNames() {
        String[] texts = {"%=1;", "f %=1;", "f a %=1;", "f=let %=1 in 1;", "f=\\%.1;", "f=split 1 as %,y in 1;",
            "f=split 1 as y,% in 1;"};
        for (String word : WORDS) {
            for (String text : texts) {
                CHECKS.fault(text.replace("%", word), 2, text.indexOf('%'));
            }
            CHECKS.fault("f=1 " + word + ";", 2, 4);
        }
        for (String word : new String[] {"in", "then", "else", "as"}) {
            CHECKS.fault("f=" + word + ";", 2, 2);
            CHECKS.fault("f=(" + word + ");", 2, 3);
        }
    }

    private static void testAlmostWordsAreNames() {
        for (String word : WORDS) {
            for (String name : new String[] {word + "s", word + "0", "x" + word, word + word.charAt(0),
                word.substring(1), word.substring(0, word.length() - 1)}) {
                CHECKS.same("NAME " + name, 5, valueOf("f0=" + name + " 3;" + name + " " + name + "x=" + name + "x+2;"));
            }
        }
        CHECKS.fault("f=Let;", 1, 2);
    }
}
