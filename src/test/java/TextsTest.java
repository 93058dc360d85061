/** Promises 1 to 6 and 15: texts, faults, DEFS, THINGS. */
public final class TextsTest {
    private static final int NONE = UsageProofs.NONE;
    private static final int BAD = UsageProofs.BAD;
    private static final int FULL = UsageProofs.FULL;
    private static final Checks CHECKS = new Checks("TextsTest");

    public static void main(String[] args) {
        testConstants();
        testNewObject();
        testType();
        testTypeFull();
        testReadAndPlace();
        testFailedReadKeeps();
        testFaultLeavesNothingOpen();
        testGoodReadForgets();
        testTokenFaults();
        testGrammarFaults();
        testMeaningFaults();
        testTwiceFaults();
        testDefAndParameterLimits();
        testThingLimits();
        testSplitFirstNameFull();
        testSplitSecondNameFull();
        testSplitFits();
        testSplitWithinSplit();
        testOpenLimits();
        testDef();
        testThing();
        testTold();
        CHECKS.end();
    }

    private static void testConstants() {
        CHECKS.same("NONE", -1, UsageProofs.NONE);
        CHECKS.same("BAD", -2, UsageProofs.BAD);
        CHECKS.same("FULL", -4, UsageProofs.FULL);
    }

    private static void testNewObject() {
        UsageProofs p = new UsageProofs();
        for (int what = 0; what < 4; what++) {
            CHECKS.same("new told(" + what + ")", 0, p.told(what));
        }
        CHECKS.same("new place()", NONE, p.place());
        CHECKS.same("new def(0, 0)", NONE, p.def(0, 0));
        CHECKS.same("new thing(0, 0)", NONE, p.thing(0, 0));
        CHECKS.same("new value()", 0, p.value());
        for (int what = 0; what < 7; what++) {
            CHECKS.same("new count(" + what + ")", 0, p.count(what));
        }
        for (int i = 0; i < 4; i++) {
            CHECKS.same("new argument(" + i + ")", 0, p.argument(i, 0));
        }
        CHECKS.same("new run", NONE, p.run(0, 0, 0));
        CHECKS.same("new row", NONE, p.row(0, 0, 0, 0));
        CHECKS.same("new plant", NONE, p.plant(0, 0, 0, 0, 0));
        CHECKS.same("new check()", 1, p.check());
        CHECKS.same("new analyse()", 1, p.analyse());
        CHECKS.same("new read()", 0, p.read());
    }

    private static void testType() {
        UsageProofs p = new UsageProofs();
        CHECKS.same("type f=", 2, p.type(0x663dL, 2));
        CHECKS.same("type 1; with higher bytes", 4, p.type(0x7777777777313bL, 2));
        CHECKS.same("told(0)", 4, p.told(0));
        CHECKS.same("type n -1", BAD, p.type(0, -1));
        CHECKS.same("type n 9", BAD, p.type(0, 9));
        CHECKS.same("type n least", BAD, p.type(0, Integer.MIN_VALUE));
        CHECKS.same("type n most", BAD, p.type(0, Integer.MAX_VALUE));
        CHECKS.same("told(0) still", 4, p.told(0));
        CHECKS.same("read f=1;", 1, p.read());
        CHECKS.same("told(0) behind read", 0, p.told(0));
        CHECKS.same("type 8", 8, p.type(0x20202020663d313bL, 8));
        CHECKS.same("type 0 empties", 0, p.type(5, 0));
        CHECKS.same("told(0) emptied", 0, p.told(0));
        CHECKS.same("read nothing", 0, p.read());
        CHECKS.same("eight bytes, the highest of them with a sign", 8, p.type(-1L, 8));
        CHECKS.same("read bytes 255", -11, p.read());
    }

    private static void testTypeFull() {
        UsageProofs p = new UsageProofs();
        for (int i = 1; i <= 249; i++) {
            CHECKS.same("fill", 8 * i, p.type(0x2020202020202020L, 8));
        }
        CHECKS.same("fill to 1997", 1997, p.type(0x2020202020L, 5));
        CHECKS.same("four more", FULL, p.type(0, 4));
        CHECKS.same("eight more", FULL, p.type(0, 8));
        CHECKS.same("nine more", BAD, p.type(0, 9));
        CHECKS.same("told(0) still 1997", 1997, p.told(0));
        CHECKS.same("three more", 2000, p.type(0x20202aL, 3));
        CHECKS.same("one more", FULL, p.type(0x20, 1));
        CHECKS.same("read", -12, p.read());
        CHECKS.same("place at the last byte", 1999, p.place());
        CHECKS.same("told(0)", 0, p.told(0));
    }

    private static void testReadAndPlace() {
        CHECKS.good("", 0);
        CHECKS.good(" \n \n", 0);
        CHECKS.good("f=1;", 1);
        CHECKS.good("f x=x;g=f 1;", 2);
        CHECKS.good("f=g;g=f;", 2);
        CHECKS.good("f f=f;", 1);
        CHECKS.good("f=\\f.let f=f in split f as f,g in if f then g else f;", 1);
        CHECKS.good("f=1a;a=2;", 2);
        CHECKS.good("f = 1 - 2 - 3 * 4 < 5 + 6 ;", 1);
        CHECKS.good("f=(1,\\x.x)(1)(if 1 then 2 else 3);", 1);
        CHECKS.good("inn=1;lets=2;ifx=3;as1=4;", 4);
        CHECKS.good("abcdefgh = 999999999;", 1);
        CHECKS.good("f=\\x.1<2;", 1);
        UsageProofs p = new UsageProofs();
        CHECKS.same("read a fault", -12, Checks.read(p, "f"));
        CHECKS.same("place", 1, p.place());
        CHECKS.same("place again", 1, p.place());
        CHECKS.same("read again, nothing", 0, p.read());
        CHECKS.same("place behind a good read", NONE, p.place());
    }

    private static void testFailedReadKeeps() {
        UsageProofs p = Checks.of("f x=x+x;g=f 2;");
        CHECKS.same("analyse", 2, p.analyse());
        p.argument(0, 7);
        CHECKS.same("run", 0, p.run(0, 100, 0));
        CHECKS.same("failed read", -12, Checks.read(p, "h"));
        CHECKS.same("told(0)", 0, p.told(0));
        CHECKS.same("told(1)", 2, p.told(1));
        CHECKS.same("told(2)", 1, p.told(2));
        CHECKS.same("told(3)", 2, p.told(3));
        CHECKS.same("value", 14, p.value());
        CHECKS.same("count", 3, p.count(0));
        CHECKS.same("row", 2, p.row(0, 0, 0, 0));
        CHECKS.same("COUNTED", 2, p.thing(0, 4));
        CHECKS.same("USES", 2, p.thing(0, 3));
        CHECKS.same("run again", 0, p.run(1, 100, 0));
        CHECKS.same("value again", 4, p.value());
        CHECKS.same("read with a NAME that means nothing", -13, Checks.read(p, "f x=y;"));
        CHECKS.same("def(1, 1) stays", 8, p.def(1, 1));
        CHECKS.same("run of the PROGRAM that stays", 0, p.run(1, 100, 0));
        CHECKS.same("its value", 4, p.value());
    }

    private static void testFaultLeavesNothingOpen() {
        UsageProofs p = new UsageProofs();
        CHECKS.same("a fault inside", -12, Checks.read(p, "f a=" + Checks.repeat("(", 40) + "\n;"));
        CHECKS.same("its PARAMETER is not there", -13, Checks.read(p, "f=a;"));
        CHECKS.same("it may come again", 1, Checks.read(p, "f a=" + Checks.repeat("(", 40) + "a" + Checks.repeat(")", 40) + ";"));
        CHECKS.same("and again", 1, Checks.read(p, "g a b c d=a;"));
        CHECKS.same("a fault among PARAMETERS", -14, Checks.read(p, "g a b b=a;"));
        CHECKS.same("THINGS of the PROGRAM that stays", 4, p.told(2));
        CHECKS.same("and again", 1, Checks.read(p, "g b a=\\c.c;"));
        CHECKS.same("THINGS", 4, p.told(2));
        CHECKS.same("kind", 4, p.thing(2, 0));
    }

    private static void testGoodReadForgets() {
        UsageProofs p = Checks.of("f x=x+x;");
        p.argument(0, 5);
        p.analyse();
        p.run(0, 100, 0);
        CHECKS.same("read", 1, Checks.read(p, "f x=x*x;"));
        CHECKS.same("told(3)", 0, p.told(3));
        CHECKS.same("value", 0, p.value());
        CHECKS.same("count", 0, p.count(0));
        CHECKS.same("row", 0, p.row(0, 0, 0, 0));
        CHECKS.same("COUNTED", 0, p.thing(0, 4));
        CHECKS.same("USES", 0, p.thing(0, 3));
        CHECKS.same("run", 0, p.run(0, 100, 0));
        CHECKS.same("argument stays", 25, p.value());
    }

    private static void testTokenFaults() {
        CHECKS.fault("?", 1, 0);
        CHECKS.fault("f=1;\t", 1, 4);
        CHECKS.fault("f=A;", 1, 2);
        CHECKS.fault("f=1\r;", 1, 3);
        CHECKS.fault("f x_y=1;", 1, 3);
        CHECKS.fault("abcdefghi=1;", 1, 0);
        CHECKS.fault(" abcdefghi", 1, 1);
        CHECKS.fault("f=1234567890;", 1, 2);
        CHECKS.fault("f=0000000001;", 1, 2);
        CHECKS.fault("f=/;", 1, 2);
        CHECKS.fault("f=>1;", 1, 2);
        CHECKS.fault("f=\0;", 1, 2);
        CHECKS.fault("f=\u00e9;", 1, 2);
        CHECKS.fault("f=1;;?", 2, 4);
        CHECKS.fault("f=1;?;", 1, 4);
        CHECKS.fault("f=)?", 2, 2);
        CHECKS.fault("f f f=1;?", 4, 4);
        CHECKS.fault("f a a abcdefghi", 4, 4);
        CHECKS.fault("f=nothing;?", 1, 10);
        CHECKS.fault("f=splitsplits;", 1, 2);
    }

    private static void testGrammarFaults() {
        CHECKS.fault("1=2;", 2, 0);
        CHECKS.fault("let=2;", 2, 0);
        CHECKS.fault("f let=2;", 2, 2);
        CHECKS.fault("f", 2, 1);
        CHECKS.fault("f  ", 2, 3);
        CHECKS.fault("f=", 2, 2);
        CHECKS.fault("f=1", 2, 3);
        CHECKS.fault("f=;", 2, 2);
        CHECKS.fault("f=1;;", 2, 4);
        CHECKS.fault("f=1 g=2;", 2, 5);
        CHECKS.fault("f=\\;", 2, 3);
        CHECKS.fault("f=\\1.1;", 2, 3);
        CHECKS.fault("f=\\x 1;", 2, 5);
        CHECKS.fault("f=\\.1;", 2, 3);
        CHECKS.fault("f=let =1 in 1;", 2, 6);
        CHECKS.fault("f=split 1 as ,y in 1;", 2, 13);
        CHECKS.fault("f=split 1 as x, in 1;", 2, 16);
        CHECKS.fault("f=\\x.;", 2, 5);
        CHECKS.fault("f=\\if.1;", 2, 3);
        CHECKS.fault("f=let in=1 in 1;", 2, 6);
        CHECKS.fault("f=let x 1;", 2, 8);
        CHECKS.fault("f=let x=1;", 2, 9);
        CHECKS.fault("f=let x=1 in;", 2, 12);
        CHECKS.fault("f=if 1 else 2;", 2, 7);
        CHECKS.fault("f=if 1 then 2;", 2, 13);
        CHECKS.fault("f=if 1 then 2 else ;", 2, 19);
        CHECKS.fault("f=split 1 in;", 2, 10);
        CHECKS.fault("f=split 1 as 1,x in 1;", 2, 13);
        CHECKS.fault("f=split 1 as x x in 1;", 2, 15);
        CHECKS.fault("f=split 1 as x,1 in 1;", 2, 15);
        CHECKS.fault("f=split 1 as x,y 1;", 2, 17);
        CHECKS.fault("f=1<2<3;", 2, 5);
        CHECKS.fault("f=1+;", 2, 4);
        CHECKS.fault("f=*1;", 2, 2);
        CHECKS.fault("f=1 - - 2;", 2, 6);
        CHECKS.fault("f=1+\\x.x;", 2, 4);
        CHECKS.fault("f=1 \\x.x;", 2, 4);
        CHECKS.fault("f=1 let x=1 in x;", 2, 4);
        CHECKS.fault("f=();", 2, 3);
        CHECKS.fault("f=(1;", 2, 4);
        CHECKS.fault("f=(1,2,3);", 2, 6);
        CHECKS.fault("f=(1,);", 2, 5);
        CHECKS.fault("f=1);", 2, 3);
        CHECKS.fault("f=(1", 2, 4);
        CHECKS.fault("f=1,2;", 2, 3);
        CHECKS.fault("(f)=1;", 2, 0);
        CHECKS.fault("f=1.;", 2, 3);
        CHECKS.fault("f=in;", 2, 2);
        CHECKS.fault("f=as;", 2, 2);
        CHECKS.fault("f=then;", 2, 2);
        CHECKS.fault("f=else;", 2, 2);
        CHECKS.fault("f=2;g", 2, 5);
    }

    private static void testMeaningFaults() {
        CHECKS.fault("f=x;", 3, 2);
        CHECKS.fault("f=let x=x in x;", 3, 8);
        CHECKS.fault("f=(\\x.x)x;", 3, 8);
        CHECKS.fault("f=(split 1 as x,y in x)+y;", 3, 24);
        CHECKS.fault("f=split x as x,y in x;", 3, 8);
        CHECKS.fault("f x=1;g=x;", 3, 8);
        CHECKS.fault("f=g+h+i;h=1;", 3, 2);
        CHECKS.fault("f=g+h+i;g=1;", 3, 4);
        CHECKS.fault("f=x;g=1;g=2;", 4, 8);
        CHECKS.fault("f=x;g=;", 2, 6);
        CHECKS.fault("f=(let x=1 in x)x;", 3, 16);
        CHECKS.fault("f=\\x.y x;", 3, 5);
    }

    private static void testTwiceFaults() {
        CHECKS.fault("f=1;f=2;", 4, 4);
        CHECKS.fault("f=1;f f=2;", 4, 4);
        CHECKS.fault("f x x=1;", 4, 4);
        CHECKS.fault("f a b a=1;", 4, 6);
        CHECKS.fault("f=split 1 as x,x in 1;", 4, 15);
        CHECKS.fault("f a b c d a=1;", 4, 10);
        CHECKS.fault("f=1; g=2; f", 4, 10);
        CHECKS.good("f x=1;g x=2;", 2);
        CHECKS.good("f x=\\x.\\x.x;", 1);
    }

    private static String defs(int size, String rest) {
        StringBuilder text = new StringBuilder();
        for (int i = 0; i < size; i++) {
            text.append('f').append(i).append(rest);
        }
        return text.toString();
    }

    private static void testDefAndParameterLimits() {
        CHECKS.good(defs(24, "=1;"), 24);
        String full = defs(24, "=1;");
        CHECKS.fault(full + "g=1;", 5, full.length());
        CHECKS.fault(full + "g", 5, full.length());
        CHECKS.fault(full + "f3=1;", 4, full.length());
        CHECKS.fault(full + "3=1;", 2, full.length());
        CHECKS.fault(full + "?=1;", 1, full.length());
        CHECKS.good("f a b c d=1;", 1);
        CHECKS.fault("f a b c d e=1;", 5, 10);
        CHECKS.fault("f a b c d e", 5, 10);
        CHECKS.fault("f a b c d 5=1;", 2, 10);
    }

    /** 96 PARAMETERS, then 104 THINGS less those that are missing, in a DEF's E. */
    private static String manyThings(int things) {
        StringBuilder text = new StringBuilder(defs(23, " a b c d=1;"));
        text.append("g a b c d=1");
        int missing = things - 96;
        for (int i = 0; i + 1 < missing; i += 2) {
            text.append("+(\\x.1)");
        }
        if (missing % 2 == 1) {
            text.append("+(let x=1 in 1)");
        }
        return text.toString();
    }

    private static void thingFault(int things, String more, int number, int behind) {
        String text = manyThings(things);
        CHECKS.fault(text + more, number, text.length() + behind);
    }

    private static void testThingLimits() {
        CHECKS.good(manyThings(200) + ";", 24);
        CHECKS.good(manyThings(199) + "+(let x=1 in 1);", 24);
        CHECKS.good(manyThings(198) + "+(\\x.1);", 24);
        UsageProofs p = Checks.of(manyThings(200) + ";");
        CHECKS.same("told(2)", 200, p.told(2));
        CHECKS.same("thing(199, 0)", 3, p.thing(199, 0));
        CHECKS.same("thing(200, 0)", NONE, p.thing(200, 0));
        thingFault(200, "+(let x=1 in 1);", 5, 6);
        thingFault(200, "+(let ?=1 in 1);", 1, 6);
        thingFault(200, "+(let 1=1 in 1);", 2, 6);
        thingFault(200, "+(\\x.1);", 5, 2);
        thingFault(199, "+(\\x.1);", 5, 3);
        thingFault(199, "+(\\1.1);", 2, 3);
        StringBuilder lambdas = new StringBuilder("f=0");
        for (int i = 0; i < 99; i++) {
            lambdas.append("+(\\x.1)");
        }
        lambdas.append(";");
        CHECKS.good(lambdas + "g a b=1;", 2);
        CHECKS.fault(lambdas + "g a b c=1;", 5, lambdas.length() + 6);
        CHECKS.fault(lambdas + "g a b b=1;", 4, lambdas.length() + 6);
    }

    /** 200 THINGS ahead of a split: its first NAME is the token that is one too many, whatever comes behind it. */
    private static void testSplitFirstNameFull() {
        thingFault(200, "+(split 1 as x,y in 1);", 5, 13);
        thingFault(200, "+(split 1 as x,x in 1);", 5, 13);
        thingFault(200, "+(split 1 as x,1 in 1);", 5, 13);
        thingFault(200, "+(split 1 as x,? in 1);", 5, 13);
        thingFault(200, "+(split 1 as x;y in 1);", 5, 13);
        thingFault(200, "+(split 1 as x?", 5, 13);
        thingFault(200, "+(split 1 as x\0\0\0\0", 5, 13);
        thingFault(200, "+(split 1 as x", 5, 13);
        thingFault(200, "+(split 1 as 1,y in 1);", 2, 13);
        thingFault(200, "+(split 1 as let,y in 1);", 2, 13);
        thingFault(200, "+(split 1 as ,y in 1);", 2, 13);
        thingFault(200, "+(split 1 as ", 2, 13);
        thingFault(200, "+(split 1 as ?,y in 1);", 1, 13);
        thingFault(200, "+(split 1 as abcdefghi,y in 1);", 1, 13);
        thingFault(200, "+(split 1 in x,y in 1);", 2, 10);
        String slashes = Checks.repeat("\\a.", 39);
        String brackets = "f=(" + slashes + "1)(" + slashes + "1)(" + Checks.repeat("\\a.", 22) + "1)";
        CHECKS.fault(brackets + "(split 1 as a\0\0\0\0", 5, 323);
        UsageProofs p = Checks.of("f a=a;g=1;");
        CHECKS.same("read a split too many", -15, Checks.read(p, manyThings(200) + "+(split 1 as x,y in 1);"));
        CHECKS.same("told(1) as before", 2, p.told(1));
        CHECKS.same("told(2) as before", 1, p.told(2));
    }

    /** 199 ahead of it: the first NAME is the 200th THING, the second one is too many. */
    private static void testSplitSecondNameFull() {
        thingFault(199, "+(split 1 as x,y in 1);", 5, 15);
        thingFault(199, "+(split 1 as x,y?", 5, 15);
        thingFault(199, "+(split 1 as x,y", 5, 15);
        thingFault(199, "+(split 1 as x,x in 1);", 4, 15);
        thingFault(199, "+(split 1 as x,1 in 1);", 2, 15);
        thingFault(199, "+(split 1 as x,", 2, 15);
        thingFault(199, "+(split 1 as x,? in 1);", 1, 15);
        thingFault(199, "+(split 1 as x;y in 1);", 2, 14);
        thingFault(199, "+(split 1 as x?", 1, 14);
    }

    /** 198 ahead of it: both NAMES are THINGS yet. */
    private static void testSplitFits() {
        String text = manyThings(198);
        UsageProofs p = new UsageProofs();
        CHECKS.same("read", 24, Checks.read(p, text + "+(split 1 as x,y in 1);"));
        CHECKS.same("place()", NONE, p.place());
        CHECKS.same("told(2)", 200, p.told(2));
        for (int t = 198; t < 200; t++) {
            CHECKS.same("its kind", 2, p.thing(t, 0));
            CHECKS.same("its DEF", 23, p.thing(t, 1));
            CHECKS.same("its place", text.length() + 13 + 2 * (t - 198), p.thing(t, 2));
        }
        thingFault(198, "+(split 1 as x,x in 1);", 4, 15);
        thingFault(198, "+(split 1 as x,y in let z=1 in 1);", 5, 24);
        thingFault(198, "+(split 1 as x,y in \\z.1);", 5, 20);
        thingFault(198, "+(split 1 as x,y in split 1 as u,v in 1);", 5, 31);
        CHECKS.good(manyThings(197) + "+(split 1 as x,y in 1);", 24);
        thingFault(197, "+(split 1 as x,y in split 1 as u,v in 1);", 5, 33);
    }

    /** The THINGS of a split's first E come ahead of its own NAMES. */
    private static void testSplitWithinSplit() {
        String inner = "+(split (split 1 as x,y in 1) as u,v in 1);";
        thingFault(198, inner, 5, 33);
        thingFault(197, inner, 5, 35);
        String text = manyThings(196);
        UsageProofs p = Checks.of(text + inner);
        int[] places = {20, 22, 33, 35};
        for (int i = 0; i < 4; i++) {
            CHECKS.same("place of THING " + (196 + i), text.length() + places[i], p.thing(196 + i, 2));
        }
    }

    private static void testOpenLimits() {
        CHECKS.good("f=" + Checks.repeat("(", 40) + "1" + Checks.repeat(")", 40) + ";", 1);
        CHECKS.fault("f=" + Checks.repeat("(", 41) + "1" + Checks.repeat(")", 41) + ";", 5, 42);
        CHECKS.good("f=" + Checks.repeat("\\x.", 40) + "1;", 1);
        CHECKS.fault("f=" + Checks.repeat("\\x.", 41) + "1;", 5, 2 + 120);
        CHECKS.good("f=" + Checks.repeat("let x=1 in ", 40) + "1;", 1);
        CHECKS.fault("f=" + Checks.repeat("let x=1 in ", 41) + "1;", 5, 2 + 440);
        CHECKS.good("f=" + Checks.repeat("if 1 then 2 else ", 40) + "1;", 1);
        CHECKS.fault("f=" + Checks.repeat("if 1 then 2 else ", 41) + "1;", 5, 2 + 680);
        CHECKS.good("f=" + Checks.repeat("split 1 as x,y in ", 40) + "1;", 1);
        CHECKS.fault("f=" + Checks.repeat("split 1 as x,y in ", 41) + "1;", 5, 2 + 720);
        CHECKS.good("f=" + Checks.repeat("let x=", 40) + "1" + Checks.repeat(" in x", 40) + ";", 1);
        CHECKS.fault("f=" + Checks.repeat("let x=", 41) + "1" + Checks.repeat(" in x", 41) + ";", 5, 2 + 240);
        CHECKS.good("f=" + Checks.repeat("if ", 40) + "1" + Checks.repeat(" then 1 else 1", 40) + ";", 1);
        CHECKS.good("f=" + Checks.repeat("split ", 40) + "1" + Checks.repeat(" as x,y in x", 40) + ";", 1);
        String mixed = Checks.repeat("(\\x.let y=1 in if 1 then split 1 as a,b in ", 8);
        String ends = Checks.repeat(" else 0)", 8);
        CHECKS.good("f=" + mixed + "1" + ends + ";", 1);
        CHECKS.fault("f=" + mixed + "(1)" + ends + ";", 5, 2 + mixed.length());
        CHECKS.good("f=" + Checks.repeat("(1)", 60) + ";", 1);
        CHECKS.good("f=" + Checks.repeat("(let x=1 in x)+", 60) + "1;", 1);
        CHECKS.good("f=" + Checks.repeat("(if 1 then 2 else 3)+", 60) + "1;", 1);
        CHECKS.good("f=" + Checks.repeat("(split 1 as x,y in x)+", 60) + "1;", 1);
        CHECKS.good("f=" + Checks.repeat("(1,2)", 60) + ";", 1);
        CHECKS.good("f=" + Checks.repeat("(\\x.1)+", 60) + "1;", 1);
        String deep = Checks.repeat("(", 39);
        CHECKS.good("f=" + deep + "(1)(1)+(1)" + Checks.repeat(")", 39) + ";", 1);
        CHECKS.fault("f=" + deep + "(1)(1)+(\\x.1" + Checks.repeat(")", 40) + ";", 5, 2 + 39 + 8);
    }

    private static void testDef() {
        UsageProofs p = Checks.of(" f=1; \n gg a b c d=2;h x=f;");
        CHECKS.same("def(0, 0)", 0, p.def(0, 0));
        CHECKS.same("def(0, 1)", 1, p.def(0, 1));
        CHECKS.same("def(1, 0)", 4, p.def(1, 0));
        CHECKS.same("def(1, 1)", 8, p.def(1, 1));
        CHECKS.same("def(2, 0)", 1, p.def(2, 0));
        CHECKS.same("def(2, 1)", 21, p.def(2, 1));
        CHECKS.same("def(3, 0)", NONE, p.def(3, 0));
        CHECKS.same("def(-1, 0)", NONE, p.def(-1, 0));
        CHECKS.same("def(most, 9)", NONE, p.def(Integer.MAX_VALUE, 9));
        CHECKS.same("def(3, 2)", NONE, p.def(3, 2));
        CHECKS.same("def(0, 2)", BAD, p.def(0, 2));
        CHECKS.same("def(0, -1)", BAD, p.def(0, -1));
    }

    private static void thing(UsageProofs p, int t, int kind, int d, int where) {
        CHECKS.same("thing(" + t + ", 0)", kind, p.thing(t, 0));
        CHECKS.same("thing(" + t + ", 1)", d, p.thing(t, 1));
        CHECKS.same("thing(" + t + ", 2)", where, p.thing(t, 2));
    }

    private static void testThing() {
        //                        0123456789012345678901234567890123456789012345678901234567890123
        UsageProofs p = Checks.of("f a b=let x=\\y.y in split (a,b) as u,v in x u v; g=1; h c=\\z.c;");
        CHECKS.same("told(2)", 10, p.told(2));
        thing(p, 0, 0, 0, 2);
        thing(p, 1, 0, 0, 4);
        thing(p, 2, 1, 0, 10);
        thing(p, 3, 4, 0, 12);
        thing(p, 4, 3, 0, 13);
        thing(p, 5, 2, 0, 35);
        thing(p, 6, 2, 0, 37);
        thing(p, 7, 0, 2, 56);
        thing(p, 8, 4, 2, 58);
        thing(p, 9, 3, 2, 59);
        CHECKS.same("thing(10, 0)", NONE, p.thing(10, 0));
        CHECKS.same("thing(-1, 0)", NONE, p.thing(-1, 0));
        CHECKS.same("thing(10, 5)", NONE, p.thing(10, 5));
        CHECKS.same("thing(0, 5)", BAD, p.thing(0, 5));
        CHECKS.same("thing(0, -1)", BAD, p.thing(0, -1));
        CHECKS.same("COUNTED before a RUN", 0, p.thing(0, 4));
        CHECKS.same("USES by empty ROWS", 0, p.thing(0, 3));
        CHECKS.same("USES of let", 1, p.thing(2, 3));
    }

    private static void testTold() {
        UsageProofs p = Checks.of("f a b=a;g=\\x.x;");
        Checks.type(p, "123");
        CHECKS.same("told(0)", 3, p.told(0));
        CHECKS.same("told(1)", 2, p.told(1));
        CHECKS.same("told(2)", 4, p.told(2));
        CHECKS.same("told(3)", 0, p.told(3));
        p.analyse();
        CHECKS.same("told(3)", 2, p.told(3));
        p.analyse();
        CHECKS.same("told(3)", 1, p.told(3));
        CHECKS.same("told(4)", BAD, p.told(4));
        CHECKS.same("told(-1)", BAD, p.told(-1));
    }
}
