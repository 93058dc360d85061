/** The grammar, what NAMES mean, and FAULTS 1 to 5, at their edges: a test for each sentence that names one. */
public final class FaultEdgesTest {
    private static final Checks CHECKS = new Checks("FaultEdgesTest");
    // What opens, with what is needed before and behind the E inside it.
    private static final String[][] OPENERS = {{"(", ")"}, {"(", ",1)"}, {"(1,", ")"}, {"\\x.", ""}, {"let x=", " in 1"},
        {"let x=1 in ", ""}, {"if ", " then 1 else 1"}, {"if 1 then ", " else 1"}, {"if 1 then 1 else ", ""},
        {"split ", " as x,y in 1"}, {"split 1 as x,y in ", ""}};

    public static void main(String[] args) {
        testDefGrammar();
        testExpressionsOfWords();
        testOneComparison();
        testRanks();
        testBrackets();
        testFaultAtTheEnd();
        testFaultFirstInTheText();
        testLeastFaultOfOneToken();
        testLetName();
        testLambdaName();
        testSplitNames();
        testParameters();
        testInnermost();
        testMostNamesAtOnce();
        testDefWhereverItStands();
        testFirstNameThatMeansNothing();
        testMeaningComesLast();
        testDefTwice();
        testParameterTwice();
        testSplitNameTwice();
        testDefs24();
        testParameters4();
        testThings200();
        testThingsOfLambda();
        testThingsOfSplit();
        testThingsDropWithTheText();
        testOpen40();
        testClosedBrackets();
        testClosedByTheNextToken();
        testOpenDropsWithTheText();
        CHECKS.end();
    }

    private static int valueOf(String text) {
        UsageProofs p = Checks.of(text);
        CHECKS.same("run of " + text, 0, p.run(0, 1000, 0));
        return p.value();
    }

    private static String nest(String[] opener, int times, String inside) {
        return Checks.repeat(opener[0], times) + inside + Checks.repeat(opener[1], times);
    }

    // ---- grammar

    /** "DEF: NAME { NAME } = E ;". */
    private static void testDefGrammar() {
        CHECKS.good("f=1;", 1);
        CHECKS.good("f a b c d=1;", 1);
        CHECKS.fault("=1;", 2, 0);
        CHECKS.fault("f 1;", 2, 2);
        CHECKS.fault("f=;", 2, 2);
        CHECKS.fault("f=1", 2, 3);
        CHECKS.fault("f=1;;", 2, 4);
        CHECKS.fault("f=1=2;", 2, 3);
        CHECKS.fault("f a=1 g=2;", 2, 7);
        CHECKS.fault("f (a)=1;", 2, 2);
        CHECKS.fault("f=1;g", 2, 5);
    }

    /** Each WORD and SIGN that an E wants, left out, and in its place another one. */
    private static void testExpressionsOfWords() {
        CHECKS.good("f=\\x.1;", 1);
        CHECKS.fault("f=\\.1;", 2, 3);
        CHECKS.fault("f=\\x 1;", 2, 5);
        CHECKS.fault("f=\\x,1;", 2, 4);
        CHECKS.fault("f=\\x y.1;", 2, 5);
        CHECKS.fault("f=\\x.;", 2, 5);
        CHECKS.good("f=let x=1 in 2;", 1);
        CHECKS.fault("f=let =1 in 2;", 2, 6);
        CHECKS.fault("f=let x 1 in 2;", 2, 8);
        CHECKS.fault("f=let x y=1 in 2;", 2, 8);
        CHECKS.fault("f=let x= in 2;", 2, 9);
        CHECKS.fault("f=let x=1;", 2, 9);
        CHECKS.fault("f=let x=1 then 2;", 2, 10);
        CHECKS.fault("f=let x=1 in ;", 2, 13);
        CHECKS.good("f=if 1 then 2 else 3;", 1);
        CHECKS.fault("f=if then 2 else 3;", 2, 5);
        CHECKS.fault("f=if 1 in 2 else 3;", 2, 7);
        CHECKS.fault("f=if 1 then else 3;", 2, 12);
        CHECKS.fault("f=if 1 then 2;", 2, 13);
        CHECKS.fault("f=if 1 then 2 then 3;", 2, 14);
        CHECKS.fault("f=if 1 then 2 else;", 2, 18);
        CHECKS.good("f=split 1 as x,y in 2;", 1);
        CHECKS.fault("f=split as x,y in 2;", 2, 8);
        CHECKS.fault("f=split 1 in 2;", 2, 10);
        CHECKS.fault("f=split 1 as ,y in 2;", 2, 13);
        CHECKS.fault("f=split 1 as x in 2;", 2, 15);
        CHECKS.fault("f=split 1 as x;y in 2;", 2, 14);
        CHECKS.fault("f=split 1 as x, in 2;", 2, 16);
        CHECKS.fault("f=split 1 as x,y,z in 2;", 2, 16);
        CHECKS.fault("f=split 1 as x,y 2;", 2, 17);
        CHECKS.fault("f=split 1 as x,y in;", 2, 19);
        for (String word : new String[] {"\\x.1", "let x=1 in 1", "if 1 then 1 else 1", "split 1 as x,y in 1"}) {
            for (String before : new String[] {"1 ", "1+", "1-", "1*", "1<", "(1)", "f "}) {
                CHECKS.fault("f=" + before + word + ";", 2, 2 + before.length());
                CHECKS.good("f=" + before + "(" + word + ");", 1);
            }
        }
    }

    /** "C: S or S < S": one at most, and none needed. */
    private static void testOneComparison() {
        CHECKS.good("f=1;", 1);
        CHECKS.good("f=1<2;", 1);
        CHECKS.fault("f=1<2<3;", 2, 5);
        CHECKS.good("f=(1<2)<3;", 1);
        CHECKS.good("f=1<(2<3);", 1);
        CHECKS.fault("f=<2;", 2, 2);
        CHECKS.fault("f=1<;", 2, 4);
        CHECKS.fault("f=1+2<3+4<5;", 2, 9);
    }

    /** "+ - of like rank, and *, from the left", "of B B B from the left"; any times, none too. */
    private static void testRanks() {
        CHECKS.same("from the left", 5, valueOf("f=10-3-2;"));
        CHECKS.same("of like rank", 9, valueOf("f=10-3+2;"));
        CHECKS.same("* is nearer", 4, valueOf("f=10-3*2;"));
        CHECKS.same("* is nearer, ahead", 28, valueOf("f=10*3-2;"));
        CHECKS.same("< is farthest", 1, valueOf("f=1+1<1+2;"));
        CHECKS.same("APPLICATION is nearest", 10, valueOf("f=g 2*3+1*2-1;g x=x+1;"));
        CHECKS.same("APPLICATION from the left", 6, valueOf("f=g 9 3;g x y=x-y;"));
        CHECKS.same("brackets", 9, valueOf("f=10-(3-2);"));
        for (String sign : new String[] {"+", "-", "*"}) {
            CHECKS.fault("f=" + sign + "1;", 2, 2);
            CHECKS.fault("f=1" + sign + ";", 2, 4);
            CHECKS.fault("f=1" + sign + sign + "1;", 2, 4);
        }
        CHECKS.same("many of them", -388, valueOf("f=1" + Checks.repeat("-1", 390) + "+1;"));
    }

    /** "( E ) | ( E , E )". */
    private static void testBrackets() {
        CHECKS.good("f=(1);", 1);
        CHECKS.good("f=(1,2);", 1);
        CHECKS.fault("f=();", 2, 3);
        CHECKS.fault("f=(,1);", 2, 3);
        CHECKS.fault("f=(1,);", 2, 5);
        CHECKS.fault("f=(1,2,3);", 2, 6);
        CHECKS.fault("f=(1;", 2, 4);
        CHECKS.fault("f=(1,2;", 2, 6);
        CHECKS.fault("f=1);", 2, 3);
        CHECKS.fault("f=1,2;", 2, 3);
        CHECKS.same("( E ) is E", 7, valueOf("f=(((7)));"));
    }

    // ---- which FAULT, and where

    /** "at a token's first byte (the text's length at its end)". */
    private static void testFaultAtTheEnd() {
        String whole = "f a=let x=(\\y.y*2) a in split (x,1) as u,v in if u<v then u else u-v;";
        CHECKS.good(whole, 1);
        for (int end = 1; end < whole.length(); end++) {
            // Half of that in is a NAME, which can't come there itself.
            int halfIn = whole.indexOf("u,v in") + 4;
            CHECKS.fault(whole.substring(0, end), 2, end == halfIn + 1 ? halfIn : end);
            CHECKS.fault(whole.substring(0, end) + " \n ", 2, end == halfIn + 1 ? halfIn : end + 3);
        }
        CHECKS.fault("f", 2, 1);
        CHECKS.fault("f=1", 2, 3);
        CHECKS.fault("f=1\n\n", 2, 5);
        CHECKS.fault("f=12 abcdefgh=3;", 2, 13);
        CHECKS.fault("f=1;  \n 123", 2, 8);
        CHECKS.fault("f=1;  \n abcdefghi", 1, 8);
    }

    /** "the first in THE TEXT". */
    private static void testFaultFirstInTheText() {
        CHECKS.fault("f=1;=?", 2, 4);
        CHECKS.fault("f=1;?=", 1, 4);
        CHECKS.fault("f=1;f?", 4, 4);
        CHECKS.fault("f a a?", 4, 4);
        CHECKS.fault("f a b c d e?", 5, 10);
        CHECKS.fault("f a b c d?e", 1, 9);
        CHECKS.fault("f a a b c d=1;", 4, 4);
        CHECKS.fault("f a b c d e e=1;", 5, 10);
        CHECKS.fault("f=split 1 as x,x?", 4, 15);
        CHECKS.fault("f=split 1 as x?,x", 1, 14);
        String open = "f=" + Checks.repeat("(", 40);
        CHECKS.fault(open + "(?", 5, 42);
        CHECKS.fault(open + "?(", 1, 42);
        CHECKS.fault(open + ")(", 2, 42);
        CHECKS.fault(open + "\\?", 5, 42);
    }

    /** "of one token the least number". */
    private static void testLeastFaultOfOneToken() {
        String full = defs(24);
        CHECKS.fault("f=1 =", 2, 4);
        CHECKS.fault("f=1 ?", 1, 4);
        CHECKS.fault("f=1;abcdefghi=1;", 1, 4);
        CHECKS.fault(full + "abcdefghi=1;", 1, full.length());
        CHECKS.fault(full + "?", 1, full.length());
        CHECKS.fault(full + "7=1;", 2, full.length());
        CHECKS.fault(full + "in=1;", 2, full.length());
        CHECKS.fault(full + "f0=1;", 4, full.length());
        CHECKS.fault(full + "f23=1;", 4, full.length());
        CHECKS.fault(full + "g=1;", 5, full.length());
        CHECKS.fault("f a b c d abcdefghi=1;", 1, 10);
        CHECKS.fault("f a b c d as=1;", 2, 10);
        CHECKS.fault("f a b c d d=1;", 4, 10);
        CHECKS.fault("f a b c d e=1;", 5, 10);
        String open = "f=" + Checks.repeat("(", 40);
        for (String opener : new String[] {"\\", "let", "if", "split"}) {
            CHECKS.fault(open + "1 " + opener, 2, 44);
            CHECKS.fault(open + opener, 5, 42);
        }
        CHECKS.fault(open + "1 (", 5, 44);
        CHECKS.fault(open + "lets", 2, 46);
        CHECKS.fault(open + "letletlet", 1, 42);
    }

    // ---- what NAMES mean

    /** "the NAME of let, in its second E (in its first not)". */
    private static void testLetName() {
        CHECKS.same("in its second", 3, valueOf("f=let x=3 in x;"));
        CHECKS.fault("f=let x=x in 1;", 3, 8);
        CHECKS.same("in its first it is the one outside", 5, valueOf("f=let x=x+1 in x;x=4;"));
        CHECKS.fault("f=(let x=3 in x)+x;", 3, 17);
        CHECKS.same("to the end of its second", 6, valueOf("f=let x=3 in 1*x+x;"));
    }

    /** "that of \, in its E". */
    private static void testLambdaName() {
        CHECKS.same("in its E", 6, valueOf("f=(\\x.x+x) 3;"));
        CHECKS.fault("f=(\\x.x) x;", 3, 9);
        CHECKS.fault("f=x (\\x.x);", 3, 2);
        CHECKS.same("behind it the one outside", 7, valueOf("f=(\\x.x) 3+x;x=4;"));
    }

    /** "both of split, in its second E". */
    private static void testSplitNames() {
        CHECKS.same("both", 37, valueOf("f=split (3,7) as x,y in x*10+y;"));
        CHECKS.fault("f=split (x,1) as x,y in 1;", 3, 9);
        CHECKS.fault("f=split (1,y) as x,y in 1;", 3, 11);
        CHECKS.fault("f=(split (1,2) as x,y in 1)+x;", 3, 28);
        CHECKS.fault("f=(split (1,2) as x,y in 1)+y;", 3, 28);
        CHECKS.same("in its first those outside", 98, valueOf("f=split (y,x) as x,y in x*10+y;x=8;y=9;"));
    }

    /** "the PARAMETERS, in their DEF's E". */
    private static void testParameters() {
        UsageProofs p = Checks.of("f a b c d=a*1000+b*100+c*10+d;");
        for (int i = 0; i < 4; i++) {
            p.argument(i, i + 1);
        }
        CHECKS.same("run", 0, p.run(0, 100, 0));
        CHECKS.same("all four", 1234, p.value());
        CHECKS.fault("f a=1;g=a;", 3, 8);
        CHECKS.fault("f=a;g a=1;", 3, 2);
        CHECKS.good("f a=a;g a=a;", 2);
        CHECKS.good("f f=f;", 1);
    }

    /** "the innermost that has it". */
    private static void testInnermost() {
        CHECKS.same("let in let", 2, valueOf("f=let x=1 in let x=2 in x;"));
        CHECKS.same("let in \\", 2, valueOf("f=(\\x.let x=2 in x) 1;"));
        CHECKS.same("\\ in let", 2, valueOf("f=let x=1 in (\\x.x) 2;"));
        CHECKS.same("\\ in \\", 2, valueOf("f=(\\x.\\x.x) 1 2;"));
        CHECKS.same("split in let", 2, valueOf("f=let x=1 in split (3,2) as y,x in x;"));
        CHECKS.same("let in split", 2, valueOf("f=split (1,3) as x,y in let x=2 in x;"));
        CHECKS.same("split in split", 34, valueOf("f=split (1,2) as x,y in split (3,4) as x,y in x*10+y;"));
        CHECKS.same("let in PARAMETERS", 2, valueOf("f x=let x=2 in x;"));
        CHECKS.same("outside again", 12, valueOf("f=let x=1 in (let x=2 in x)+x*10;"));
        CHECKS.same("PARAMETER, not the DEF", 0, valueOf("f g=g;g=5;"));
        CHECKS.same("its own NAME as PARAMETER", 0, valueOf("f f=f;"));
        CHECKS.same("let, not the DEF", 6, valueOf("f=let g=6 in g;g=5;"));
    }

    /** 4 PARAMETERS and both NAMES of 40 splits that are open mean themselves, the outermost and the innermost. */
    private static void testMostNamesAtOnce() {
        StringBuilder text = new StringBuilder("f a b c d=");
        for (int i = 0; i < 40; i++) {
            text.append("split (").append(i).append(",1").append(i).append(") as x").append(i).append(",y").append(i).append(" in ");
        }
        // The bracket of the last PAIR would be the 41st that is open, so a DEF gives that one.
        String last = "split p as x39,y39 in ";
        String most = text.toString().replace("split (39,139) as x39,y39 in ", last);
        UsageProofs p = new UsageProofs();
        String sum = "a*1000000+d*100000+x0*10000+y0*1000+x38*100+y38*10+x39-y39;p=(39,139);";
        CHECKS.same("read", 2, Checks.read(p, most + sum));
        CHECKS.same("THINGS", 84, p.told(2));
        p.argument(0, 7);
        p.argument(3, 9);
        CHECKS.same("run", 0, p.run(0, 10000, 0));
        CHECKS.same("value", 7000000 + 900000 + 0 + 10000 + 3800 + 1380 + 39 - 139, p.value());
        CHECKS.fault(most + "x40;p=1;", 3, most.length());
    }

    /** "else the DEF of that NAME, wherever it stands". */
    private static void testDefWhereverItStands() {
        CHECKS.same("behind", 5, valueOf("f=g;g=5;"));
        CHECKS.same("ahead", 5, Checks.of("g=5;f=g;").run(1, 100, 0) + 5);
        CHECKS.same("itself", 4, Checks.of("f=f;").run(0, 100, 0));
        StringBuilder text = new StringBuilder("f0=f23+f1;f1=1;");
        for (int d = 2; d < 24; d++) {
            text.append('f').append(d).append('=').append(d).append(';');
        }
        CHECKS.same("the last one", 24, valueOf(text.toString()));
    }

    /** "3 the first NAME that means nothing". */
    private static void testFirstNameThatMeansNothing() {
        CHECKS.fault("f=x;", 3, 2);
        CHECKS.fault("f=g x y;g=1;", 3, 4);
        CHECKS.fault("f=y x;", 3, 2);
        CHECKS.fault("f=1+(2,x)+y;", 3, 7);
        CHECKS.fault("f=x;g=y;", 3, 2);
        CHECKS.fault("f=g;g=\\y.y+z;h=w;", 3, 11);
        CHECKS.fault("f=if 1 then 2 else x;", 3, 19);
        CHECKS.fault("f=let a=1 in split b as c,d in e;", 3, 19);
        String far = "f=1" + Checks.repeat(" ", 1995) + "x;";
        CHECKS.fault(far, 3, 1998);
    }

    /** "Without these: 3". */
    private static void testMeaningComesLast() {
        CHECKS.fault("f=x;?", 1, 4);
        CHECKS.fault("f=x;g", 2, 5);
        CHECKS.fault("f=x", 2, 3);
        CHECKS.fault("f=x;f=1;", 4, 4);
        CHECKS.fault("f=x;g a a=1;", 4, 8);
        CHECKS.fault("f=x;g a b c d e=1;", 5, 14);
        CHECKS.fault("f=x+(" + Checks.repeat("(", 40), 5, 44);
    }

    // ---- FAULT 4

    /** "a DEF's NAME that a DEF before has". */
    private static void testDefTwice() {
        CHECKS.fault("f=1;f=2;", 4, 4);
        CHECKS.fault("f=1;g=1;h=1;f=2;", 4, 12);
        CHECKS.fault("f=1;g=1;h=1;h=2;", 4, 12);
        CHECKS.fault("f a=1;f a b=2;", 4, 6);
        CHECKS.good("f g=1;g f=2;", 2);
        String most = defs(23);
        CHECKS.fault(most + "f22=1;", 4, most.length());
        CHECKS.fault(most + "f0=1;", 4, most.length());
    }

    /** "a PARAMETER that one before it in its DEF has". */
    private static void testParameterTwice() {
        CHECKS.fault("f a a=1;", 4, 4);
        CHECKS.fault("f a b a=1;", 4, 6);
        CHECKS.fault("f a b b=1;", 4, 6);
        CHECKS.fault("f a b c a=1;", 4, 8);
        CHECKS.fault("f a b c c=1;", 4, 8);
        CHECKS.good("f a=1;g a=2;", 2);
        CHECKS.good("f a=let a=1 in \\a.split 1 as a,b in a;", 1);
        CHECKS.good("f f=1;", 1);
    }

    /** "the second NAME of split, if it is the first". */
    private static void testSplitNameTwice() {
        CHECKS.fault("f=split 1 as x,x in 1;", 4, 15);
        CHECKS.fault("f=split 1 as abcdefgh,abcdefgh in 1;", 4, 22);
        CHECKS.good("f=split 1 as abcdefgh,abcdefgi in 1;", 1);
        CHECKS.good("f x y=split 1 as y,x in split 1 as x,y in 1;", 1);
    }

    // ---- FAULT 5

    private static String defs(int size) {
        StringBuilder text = new StringBuilder();
        for (int d = 0; d < size; d++) {
            text.append('f').append(d).append("=1;");
        }
        return text.toString();
    }

    /** "the 25th DEF". */
    private static void testDefs24() {
        CHECKS.good(defs(23), 23);
        CHECKS.good(defs(24), 24);
        CHECKS.good(defs(24) + " \n", 24);
        CHECKS.fault(defs(25), 5, defs(24).length());
        CHECKS.fault(defs(24) + "g", 5, defs(24).length());
        CHECKS.fault(defs(24) + "  g a a=1;", 5, defs(24).length() + 2);
        CHECKS.fault(defs(23) + "g", 2, defs(23).length() + 1);
        UsageProofs p = Checks.of(defs(24));
        CHECKS.same("the 24th", 0, p.def(23, 0));
        CHECKS.same("its place", defs(23).length(), p.def(23, 1));
        CHECKS.same("the 25th", UsageProofs.NONE, p.def(24, 0));
        CHECKS.same("the 24th runs", 0, p.run(23, 10, 0));
        CHECKS.same("the 25th does not", UsageProofs.NONE, p.run(24, 10, 0));
    }

    /** "the 5th PARAMETER". */
    private static void testParameters4() {
        String[] texts = {"f=1;", "f a=1;", "f a b=1;", "f a b c=1;", "f a b c d=1;"};
        for (int size = 0; size < texts.length; size++) {
            UsageProofs p = Checks.of(texts[size]);
            CHECKS.same("PARAMETERS", size, p.def(0, 0));
            CHECKS.same("THINGS", size, p.told(2));
        }
        CHECKS.fault("f a b c d e=1;", 5, 10);
        CHECKS.fault("f a b c d e", 5, 10);
        CHECKS.fault("f a b c d\ne f=1;", 5, 10);
        CHECKS.fault("f a b c d=1;g a b c d e=1;", 5, 22);
    }

    /** A text with so many THINGS, in an E that may go on. */
    private static String things(int size) {
        return "f=1" + Checks.repeat("+(\\x.1)", size / 2) + (size % 2 == 1 ? "+(let x=1 in 1)" : "");
    }

    private static void fits(int size, String more, int things) {
        UsageProofs p = new UsageProofs();
        CHECKS.holds(size + " and " + more + " fit", Checks.read(p, things(size) + more) > 0);
        CHECKS.same("THINGS of " + size + " and " + more, things, p.told(2));
        CHECKS.holds("the last one", p.thing(things - 1, 0) >= 0);
        CHECKS.same("no more", UsageProofs.NONE, p.thing(things, 0));
    }

    private static void tooMany(int size, String more, int fault, int behind) {
        CHECKS.fault(things(size) + more, fault, things(size).length() + behind);
    }

    /** "another token that would make more than 200 THINGS": a PARAMETER, the NAME of let. */
    private static void testThings200() {
        fits(200, ";", 200);
        fits(200, "+(if 1 then 2 else 3)+(1,2);g=1;h=g;", 200);
        fits(199, ";g a=1;", 200);
        tooMany(200, ";g a=1;", 5, 3);
        tooMany(200, ";g a a=1;", 5, 3);
        fits(196, ";g a b c d=1;", 200);
        tooMany(196, ";g a b c d e=1;", 5, 11);
        tooMany(197, ";g a b c d=1;", 5, 9);
        tooMany(199, ";g a a=1;", 4, 5);
        tooMany(199, ";g a b=1;", 5, 5);
        fits(199, "+(let y=1 in 1);", 200);
        tooMany(200, "+(let y=1 in 1);", 5, 6);
        tooMany(200, "+(let in=1 in 1);", 2, 6);
        tooMany(200, "+(let abcdefghi=1 in 1);", 1, 6);
        tooMany(200, "+(let y", 5, 6);
        tooMany(200, "+(let", 2, 5);
        tooMany(199, "+(let y=let z=1 in 1 in 1);", 5, 12);
        fits(198, "+(let y=let z=1 in 1 in 1);", 200);
    }

    /** "(that of \ at the \ or its NAME)". */
    private static void testThingsOfLambda() {
        fits(198, "+(\\y.1);", 200);
        tooMany(199, "+(\\y.1);", 5, 3);
        tooMany(199, "+(\\y", 5, 3);
        tooMany(199, "+(\\7.1);", 2, 3);
        tooMany(199, "+(\\abcdefghi.1);", 1, 3);
        tooMany(199, "+(\\", 2, 3);
        tooMany(200, "+(\\y.1);", 5, 2);
        tooMany(200, "+(\\7.1);", 5, 2);
        tooMany(200, "+(\\", 5, 2);
        tooMany(200, "+\\y.1;", 2, 1);
        fits(196, "+(\\y.\\z.1);", 200);
        tooMany(197, "+(\\y.\\z.1);", 5, 6);
        tooMany(198, "+(\\y.\\z.1);", 5, 5);
    }

    /** "the second NAME of split or another token". */
    private static void testThingsOfSplit() {
        fits(198, "+(split 1 as u,v in 1);", 200);
        tooMany(199, "+(split 1 as u,v in 1);", 5, 15);
        tooMany(199, "+(split 1 as u,u in 1);", 4, 15);
        tooMany(199, "+(split 1 as u,7 in 1);", 2, 15);
        tooMany(199, "+(split 1 as u,? in 1);", 1, 15);
        tooMany(199, "+(split 1 as u", 2, 14);
        tooMany(200, "+(split 1 as u,v in 1);", 5, 13);
        tooMany(200, "+(split 1 as u,u in 1);", 5, 13);
        tooMany(200, "+(split 1 as u?", 5, 13);
        tooMany(200, "+(split 1 as 7,v in 1);", 2, 13);
        tooMany(200, "+(split 1 as ?,v in 1);", 1, 13);
        tooMany(198, "+(split \\y.1 as u,v in 1);", 5, 16);
    }

    /** THINGS are counted anew for each text. */
    private static void testThingsDropWithTheText() {
        UsageProofs p = Checks.of(things(200) + ";");
        CHECKS.same("another one", 1, Checks.read(p, "g a=a;"));
        CHECKS.same("THINGS", 1, p.told(2));
        UsageProofs q = new UsageProofs();
        CHECKS.same("too many", -15, Checks.read(q, things(200) + "+(\\x.1);"));
        CHECKS.same("just so many", 1, Checks.read(q, things(200) + ";"));
        CHECKS.same("THINGS", 200, q.told(2));
    }

    /** "the 41st that is open at once of ( \ let if split". */
    private static void testOpen40() {
        for (String[] most : OPENERS) {
            CHECKS.good("f=" + nest(most, 40, "1") + ";", 1);
            CHECKS.fault("f=" + nest(most, 41, "1") + ";", 5, 2 + 40 * most[0].length());
            for (String[] last : OPENERS) {
                String inside = nest(last, 1, "1");
                CHECKS.good("f=" + nest(most, 39, inside) + ";", 1);
                CHECKS.fault("f=" + nest(most, 40, inside) + ";", 5, 2 + 40 * most[0].length());
            }
            for (String token : new String[] {"(", "\\", "let", "if", "split"}) {
                CHECKS.fault("f=" + Checks.repeat(most[0], 40) + token + "?", 5, 2 + 40 * most[0].length());
            }
        }
    }

    /** "a bracket up to its end". */
    private static void testClosedBrackets() {
        String open = "f=" + Checks.repeat("(", 39);
        String close = Checks.repeat(")", 39) + ";";
        CHECKS.good(open + "(1)(1)+(1,2)*(1)" + close, 1);
        CHECKS.fault(open + "(1)((1))" + close, 5, 41 + 4);
        CHECKS.fault(open + "(1,(1))" + close, 5, 41 + 3);
        CHECKS.fault(open + "(1)(\\x.1)" + close, 5, 41 + 4);
        CHECKS.good("f=" + Checks.repeat("(1)", 600) + ";", 1);
        CHECKS.good("f=" + nest(OPENERS[0], 40, "1") + nest(OPENERS[0], 40, "1") + ";g=" + nest(OPENERS[0], 40, "1") + ";", 2);
    }

    /** "the others up to the end of their E". */
    private static void testClosedByTheNextToken() {
        for (String[] opener : new String[][] {OPENERS[3], OPENERS[5], OPENERS[8], OPENERS[10]}) {
            String one = opener[0] + "1";
            String[] around = {"(" + one + "," + one + ")", "let x=" + one + " in " + one,
                "if " + one + " then " + one + " else " + one, "split " + one + " as x,y in " + one,
                "(" + one + ")(" + one + ")*(" + one + ")"};
            for (String text : around) {
                CHECKS.good("f=" + nest(OPENERS[0], 38, text) + ";", 1);
                CHECKS.fault("f=" + nest(OPENERS[0], 39, text) + ";", 5, 2 + 39 + text.indexOf(one));
            }
            String deepest = Checks.repeat(opener[0], 40) + "1;";
            CHECKS.good("f=" + deepest + "g=" + deepest, 2);
            CHECKS.fault("f=" + deepest + "g=" + opener[0] + deepest, 5, 4 + deepest.length() + 40 * opener[0].length());
        }
        // Behind the end of its E there is nothing that it is open for.
        CHECKS.good("f=" + nest(OPENERS[0], 38, "(\\x.1)(\\x.1)+(let x=1 in 1)") + ";", 1);
        CHECKS.good("f=" + nest(OPENERS[0], 38, "(if 1 then 1 else 1)(split 1 as x,y in 1)") + ";", 1);
    }

    private static void testOpenDropsWithTheText() {
        UsageProofs p = new UsageProofs();
        CHECKS.same("40 open at the end", -12, Checks.read(p, "f=" + Checks.repeat("(", 40)));
        CHECKS.same("40 more", 1, Checks.read(p, "f=" + nest(OPENERS[0], 40, "1") + ";"));
        CHECKS.same("41 open", -15, Checks.read(p, "f=" + Checks.repeat("(", 41)));
        CHECKS.same("40 more", 1, Checks.read(p, "f=" + nest(OPENERS[0], 40, "1") + ";"));
    }
}
