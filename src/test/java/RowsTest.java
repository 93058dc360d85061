/** Promises 7 to 10, and USES of promise 6: rounds, rows, what is planted, what is checked. */
public final class RowsTest {
    private static final int NONE = UsageProofs.NONE;
    private static final int BAD = UsageProofs.BAD;
    private static final Checks CHECKS = new Checks("RowsTest");

    public static void main(String[] args) {
        testPlainUses();
        testEither();
        testLet();
        testSplit();
        testLambda();
        testPair();
        testApplicationOfDef();
        testApplicationOfLambda();
        testApplicationOfOthers();
        testRounds();
        testRoundsByOldRows();
        testRowRefusals();
        testPlant();
        testPlantRefusals();
        testCheck();
        testUses();
        testUsesOfLambda();
        testManyRounds();
        testDeepExpressions();
        CHECKS.end();
    }

    /** The ROW of a DEF as four numbers: COUNT and DEMAND of a PARAMETER under 0, then under 4. */
    private static void row(UsageProofs p, int d, int i, int c0, int d0, int c4, int d4) {
        String of = "(" + d + ", " + i + ")";
        CHECKS.same("COUNT under 0 " + of, c0, p.row(d, 0, i, 0));
        CHECKS.same("DEMAND under 0 " + of, d0, p.row(d, 0, i, 1));
        CHECKS.same("COUNT under 4 " + of, c4, p.row(d, 1, i, 0));
        CHECKS.same("DEMAND under 4 " + of, d4, p.row(d, 1, i, 1));
    }

    private static UsageProofs analysed(String text) {
        UsageProofs p = Checks.of(text);
        p.analyse();
        CHECKS.same("check behind analyse of " + text, 1, p.check());
        return p;
    }

    private static void testPlainUses() {
        UsageProofs p = analysed("f a b c d=a+b*b+(c<1);g a=a;h a=1;");
        row(p, 0, 0, 1, 0, 1, 0);
        row(p, 0, 1, 2, 0, 2, 0);
        row(p, 0, 2, 1, 0, 1, 0);
        row(p, 0, 3, 0, 0, 0, 0);
        row(p, 1, 0, 1, 0, 1, 4);
        row(p, 2, 0, 0, 0, 0, 0);
    }

    private static void testEither() {
        UsageProofs p = analysed("f a b c=if a then b else b+b;g a b=if a then a else b;h a=if 1 then a 1 else a 1 2;"
                + "i a=if 1 then a 1 else a;j a=if 1 then a 1 else a 2;k a=if a then 1 else 2;");
        row(p, 0, 0, 1, 0, 1, 0);
        row(p, 0, 1, 2, 0, 2, 4);
        row(p, 0, 2, 0, 0, 0, 0);
        row(p, 1, 0, 2, 0, 2, 4);
        row(p, 1, 1, 1, 0, 1, 4);
        row(p, 2, 0, 1, 4, 1, 4);
        row(p, 3, 0, 1, 1, 1, 4);
        row(p, 4, 0, 1, 1, 1, 4);
        row(p, 5, 0, 1, 0, 1, 0);
    }

    private static void testLet() {
        UsageProofs p = analysed("f a=let x=a in x;g a=let x=a in 1;h a=let x=a in x+x;i a=let x=a in x 1;"
                + "j a=let x=\\y.a in x 1;k a=let x=\\y.a in x 1+x 2;l a=let x=a in let y=x in y+a;");
        row(p, 0, 0, 1, 0, 1, 4);
        row(p, 1, 0, 0, 0, 0, 0);
        row(p, 2, 0, 1, 0, 1, 0);
        row(p, 3, 0, 1, 1, 1, 4);
        row(p, 4, 0, 1, 0, 2, 4);
        row(p, 5, 0, 2, 4, 2, 4);
        row(p, 6, 0, 2, 0, 2, 0);
    }

    private static void testSplit() {
        UsageProofs p = analysed("f a=split a as x,y in 1;g a=split a as x,y in y;h a b=split (a,b) as x,y in x;"
                + "i a b=split (a,b) as x,y in 1;j a=split a as x,y in a;k a=split a as x,y in x+y;"
                + "l a=split a as x,y in x;");
        row(p, 0, 0, 1, 0, 1, 0);
        row(p, 1, 0, 1, 4, 1, 4);
        row(p, 2, 0, 2, 4, 2, 4);
        row(p, 2, 1, 2, 4, 2, 4);
        row(p, 3, 0, 0, 0, 0, 0);
        row(p, 4, 0, 2, 0, 2, 4);
        row(p, 5, 0, 1, 4, 1, 4);
        row(p, 6, 0, 1, 4, 1, 4);
    }

    private static void testLambda() {
        UsageProofs p = analysed("f a=\\x.a;g a=let h=\\x.a in h 1;i a=let h=\\x.\\y.a+y in h 1 2;"
                + "j a=let h=\\x.\\y.\\z.a in h 1 2 3;k a=let h=\\w.\\x.\\y.\\z.a in h 1 2 3 4;l a=\\x.a+1;");
        row(p, 0, 0, 0, 0, 2, 4);
        row(p, 1, 0, 1, 0, 2, 4);
        row(p, 2, 0, 1, 0, 2, 0);
        row(p, 3, 0, 1, 0, 2, 4);
        row(p, 4, 0, 2, 4, 2, 4);
        row(p, 5, 0, 0, 0, 2, 0);
    }

    private static void testPair() {
        UsageProofs p = analysed("f a b=(a,b+1);g a=let x=(a,1) in 1;h a=(\\y.a,1);");
        row(p, 0, 0, 0, 0, 2, 4);
        row(p, 0, 1, 0, 0, 1, 0);
        row(p, 1, 0, 0, 0, 0, 0);
        row(p, 2, 0, 0, 0, 2, 4);
    }

    private static void testApplicationOfDef() {
        UsageProofs p = analysed("k x y=x;f a b=k a b;g a b=k (a+1) (b+1);h a=k a;i a b c=k a b c;j a=c0 a;c0=1;"
                + "l a b=k (k a) b 1;");
        row(p, 0, 0, 1, 0, 1, 4);
        row(p, 0, 1, 0, 0, 0, 0);
        row(p, 1, 0, 1, 0, 1, 4);
        row(p, 1, 1, 0, 0, 0, 0);
        row(p, 2, 0, 1, 0, 1, 0);
        row(p, 2, 1, 0, 0, 0, 0);
        row(p, 3, 0, 0, 0, 2, 4);
        row(p, 4, 0, 1, 4, 1, 4);
        row(p, 4, 1, 0, 0, 0, 0);
        row(p, 4, 2, 2, 4, 2, 4);
        row(p, 5, 0, 2, 4, 2, 4);
        row(p, 7, 0, 2, 4, 2, 4);
        row(p, 7, 1, 0, 0, 0, 0);
    }

    private static void testApplicationOfLambda() {
        UsageProofs p = analysed("f a=(\\x.x) a;g a=(\\x.1) a;h a=(\\x.x+x) (a+1);i a b=(\\x.\\y.x) a b;"
                + "j a=(\\w.\\x.\\y.\\z.w) a 1 2 3;k a=(\\v.\\w.\\x.\\y.\\z.v) a 1 2 3 4;l a=(\\x.x+x) a;"
                + "m a=((\\x.a)) 1;");
        row(p, 0, 0, 1, 0, 1, 4);
        row(p, 1, 0, 0, 0, 0, 0);
        row(p, 2, 0, 1, 0, 1, 0);
        row(p, 3, 0, 1, 0, 2, 4);
        row(p, 3, 1, 2, 4, 2, 4);
        row(p, 4, 0, 1, 0, 2, 4);
        row(p, 5, 0, 2, 4, 2, 4);
        row(p, 6, 0, 2, 0, 2, 0);
        row(p, 7, 0, 1, 0, 1, 4);
    }

    private static void testApplicationOfOthers() {
        UsageProofs p = analysed("f a b=a b;g a b=a b 1;h a=a 1 2 3;i a=a 1 2 3 4;j a b=a (b+1);"
                + "k a b=(if b then a else a) b;l a b=(let x=a in x) b;m a=2 a;n a b c d=a b (c+1) d;"
                + "o a b c d=(\\x.x) a b (c+1) d;");
        row(p, 0, 0, 1, 1, 1, 4);
        row(p, 0, 1, 2, 4, 2, 4);
        row(p, 1, 0, 1, 2, 1, 4);
        row(p, 2, 0, 1, 3, 1, 4);
        row(p, 3, 0, 1, 4, 1, 4);
        row(p, 4, 1, 1, 0, 1, 0);
        row(p, 4, 1, 1, 0, 1, 0);
        row(p, 5, 0, 1, 1, 1, 4);
        row(p, 5, 1, 2, 4, 2, 4);
        row(p, 6, 0, 1, 1, 1, 4);
        row(p, 7, 0, 2, 4, 2, 4);
        for (int d = 8; d < 10; d++) {
            row(p, d, 0, 1, 3, 1, 4);
            row(p, d, 1, 2, 4, 2, 4);
            row(p, d, 2, 1, 0, 1, 0);
            row(p, d, 3, 2, 4, 2, 4);
        }
    }

    private static void testRounds() {
        UsageProofs p = Checks.of("f a=g a;g a=h a;h a=a+a;");
        CHECKS.same("check at first", -104, p.check());
        CHECKS.same("analyse", 4, p.analyse());
        CHECKS.same("told(3)", 4, p.told(3));
        CHECKS.same("analyse again", 1, p.analyse());
        CHECKS.same("told(3) again", 1, p.told(3));
        CHECKS.same("analyse without PARAMETERS", 1, Checks.of("f=1;g=f;").analyse());
        UsageProofs loop = Checks.of("f a=f a;");
        CHECKS.same("a DEF that comes to nothing", 1, loop.analyse());
        CHECKS.same("its USES", 0, loop.thing(0, 3));
    }

    private static void testRoundsByOldRows() {
        UsageProofs p = Checks.of("h a=a;g a=h a;f a=g a;");
        CHECKS.same("a ROUND looks at the ROWS before it alone", 4, p.analyse());
    }

    private static void testRowRefusals() {
        UsageProofs p = Checks.of("f a=a;g=1;");
        CHECKS.same("row DEF -1", NONE, p.row(-1, 0, 0, 0));
        CHECKS.same("row DEF 2", NONE, p.row(2, 0, 0, 0));
        CHECKS.same("row PARAMETER 1", NONE, p.row(0, 0, 1, 0));
        CHECKS.same("row PARAMETER -1", NONE, p.row(0, 0, -1, 0));
        CHECKS.same("row without PARAMETERS", NONE, p.row(1, 0, 0, 0));
        CHECKS.same("row NONE before BAD", NONE, p.row(0, 9, 1, 9));
        CHECKS.same("row under -1", BAD, p.row(0, -1, 0, 0));
        CHECKS.same("row under 2", BAD, p.row(0, 2, 0, 0));
        CHECKS.same("row under 4", BAD, p.row(0, 4, 0, 0));
        CHECKS.same("row what -1", BAD, p.row(0, 0, 0, -1));
        CHECKS.same("row what 2", BAD, p.row(0, 0, 0, 2));
        CHECKS.same("row", 0, p.row(0, 0, 0, 0));
    }

    private static void testPlant() {
        UsageProofs p = Checks.of("f a b=a;g a=1;");
        for (int count = 1; count <= 2; count++) {
            for (int demand = 0; demand <= 4; demand++) {
                CHECKS.same("plant", 1, p.plant(0, 1, 1, count, demand));
                row(p, 0, 1, 0, 0, count, demand);
            }
        }
        CHECKS.same("plant none", 1, p.plant(0, 1, 1, 0, 0));
        row(p, 0, 1, 0, 0, 0, 0);
        p.plant(0, 0, 1, 1, 3);
        row(p, 0, 1, 1, 3, 0, 0);
        row(p, 0, 0, 0, 0, 0, 0);
        row(p, 1, 0, 0, 0, 0, 0);
        CHECKS.same("analyse lets what was planted stay", 2, p.analyse());
        row(p, 0, 0, 1, 0, 1, 4);
        row(p, 0, 1, 1, 3, 0, 0);
        p.plant(0, 0, 0, 0, 0);
        CHECKS.same("check behind a loss", -100, p.check());
        CHECKS.same("check changes nothing", 0, p.row(0, 0, 0, 0));
        CHECKS.same("analyse finds it again", 2, p.analyse());
        row(p, 0, 0, 1, 0, 1, 4);
    }

    private static void testPlantRefusals() {
        UsageProofs p = Checks.of("f a=a;g=1;");
        p.plant(0, 0, 0, 1, 2);
        CHECKS.same("plant DEF", NONE, p.plant(2, 0, 0, 1, 1));
        CHECKS.same("plant DEF -1", NONE, p.plant(-1, 0, 0, 1, 1));
        CHECKS.same("plant PARAMETER", NONE, p.plant(0, 0, 1, 1, 1));
        CHECKS.same("plant without PARAMETERS", NONE, p.plant(1, 0, 0, 1, 1));
        CHECKS.same("plant NONE before BAD", NONE, p.plant(0, 5, 1, 7, 7));
        CHECKS.same("plant under 2", BAD, p.plant(0, 2, 0, 1, 1));
        CHECKS.same("plant under -1", BAD, p.plant(0, -1, 0, 1, 1));
        CHECKS.same("plant count 3", BAD, p.plant(0, 0, 0, 3, 1));
        CHECKS.same("plant count -1", BAD, p.plant(0, 0, 0, -1, 0));
        CHECKS.same("plant demand 5", BAD, p.plant(0, 0, 0, 1, 5));
        CHECKS.same("plant demand -1", BAD, p.plant(0, 0, 0, 1, -1));
        CHECKS.same("plant none with a DEMAND", BAD, p.plant(0, 0, 0, 0, 1));
        row(p, 0, 0, 1, 2, 0, 0);
    }

    private static void testCheck() {
        UsageProofs p = Checks.of("c=1;f a=a;g a=a;");
        CHECKS.same("check at first", -102, p.check());
        p.plant(1, 0, 0, 1, 0);
        CHECKS.same("check under 4", -103, p.check());
        p.plant(1, 1, 0, 2, 4);
        CHECKS.same("check of the next DEF", -104, p.check());
        p.plant(2, 0, 0, 1, 3);
        CHECKS.same("check of its ROW under 4", -105, p.check());
        p.plant(2, 1, 0, 1, 3);
        CHECKS.same("another DEMAND changes as well", -105, p.check());
        p.plant(2, 1, 0, 1, 4);
        CHECKS.same("greater ROWS hold", 1, p.check());
        CHECKS.same("told(3) is of analyse alone", 0, p.told(3));
        UsageProofs last = Checks.of("a0=1;a1=1;a2=1;a3=1;a4=1;a5=1;a6=1;a7=1;a8=1;a9=1;b0=1;b1=1;b2=1;b3=1;b4=1;"
                + "b5=1;b6=1;b7=1;b8=1;b9=1;c0=1;c1=1;c2=1;c3 x y z w=w;");
        CHECKS.same("check of the last DEF", -146, last.check());
        last.plant(23, 0, 3, 1, 0);
        CHECKS.same("check of the last ROW", -147, last.check());
    }

    private static void testUses() {
        //                        things: a 0, x 1, u 2, v 3
        UsageProofs p = Checks.of("f a=let x=a+1 in split (x,x) as u,v in u+u;");
        CHECKS.same("USES of a PARAMETER by empty ROWS", 0, p.thing(0, 3));
        CHECKS.same("USES of let", 2, p.thing(1, 3));
        CHECKS.same("USES of split, first", 2, p.thing(2, 3));
        CHECKS.same("USES of split, second", 0, p.thing(3, 3));
        p.plant(0, 1, 0, 1, 4);
        CHECKS.same("the greater COUNT of both ROWS", 1, p.thing(0, 3));
        p.plant(0, 0, 0, 2, 0);
        CHECKS.same("the greater COUNT, now of the other", 2, p.thing(0, 3));
        UsageProofs q = Checks.of("g x=1;f=let y=2 in g y;");
        CHECKS.same("USES of what is given to an empty ROW", 0, q.thing(1, 3));
        q.plant(0, 0, 0, 2, 0);
        CHECKS.same("USES by ROWS as they are", 2, q.thing(1, 3));
        q.plant(0, 0, 0, 1, 3);
        CHECKS.same("USES by ROWS as they are now", 1, q.thing(1, 3));
        q.plant(0, 0, 0, 0, 0);
        q.plant(0, 1, 0, 2, 4);
        CHECKS.same("USES under 4", 2, q.thing(1, 3));
    }

    private static void testUsesOfLambda() {
        UsageProofs p = Checks.of("f=let g=\\x.x in 1;");
        CHECKS.same("\\ that is not come to", 0, p.thing(1, 3));
        CHECKS.same("its NAME", 0, p.thing(2, 3));
        UsageProofs q = Checks.of("f=(\\x.x+x) 1;g=(let h=\\x.x in h 1)+1;i=(let h=\\x.x in h 1+h 2)+1;j=\\x.1;");
        CHECKS.same("\\ that is called at once", 1, q.thing(0, 3));
        CHECKS.same("its NAME", 2, q.thing(1, 3));
        CHECKS.same("let", 1, q.thing(2, 3));
        CHECKS.same("\\ that is called once", 1, q.thing(3, 3));
        CHECKS.same("its NAME", 1, q.thing(4, 3));
        CHECKS.same("let", 2, q.thing(5, 3));
        CHECKS.same("\\ that is called twice", 2, q.thing(6, 3));
        CHECKS.same("its NAME", 1, q.thing(7, 3));
        CHECKS.same("\\ under 4", 2, q.thing(8, 3));
        CHECKS.same("its NAME", 0, q.thing(9, 3));
    }

    private static void testManyRounds() {
        StringBuilder text = new StringBuilder();
        for (int i = 0; i < 23; i++) {
            text.append('f').append(i).append(" a b c d=f").append(i + 1).append(" d a b c;");
        }
        text.append("f23 a b c d=f0 a b c d+a 1 2+f0 d c b a;");
        UsageProofs p = Checks.of(text.toString());
        Model m = new Model();
        for (int i = 0; i < text.length(); i++) {
            m.type(text.charAt(i), 1);
        }
        m.read();
        CHECKS.same("many ROUNDS", m.analyse(), p.analyse());
        CHECKS.holds("they are many: " + p.told(3), p.told(3) > 90);
        CHECKS.same("they hold", 1, p.check());
    }

    private static void testDeepExpressions() {
        UsageProofs sums = analysed("f a=" + Checks.repeat("a+", 990) + "a;");
        row(sums, 0, 0, 2, 0, 2, 0);
        UsageProofs calls = analysed("f a=" + Checks.repeat("a ", 990) + "a;");
        row(calls, 0, 0, 2, 4, 2, 4);
        UsageProofs dense = analysed("f a=" + Checks.repeat("1a ", 660) + "a;");
        row(dense, 0, 0, 2, 4, 2, 4);
        String ifs = Checks.repeat("if a then a else ", 40);
        row(analysed("f a b=" + ifs + "b;"), 0, 1, 1, 0, 1, 4);
        String thens = Checks.repeat("if b then ", 40) + "a" + Checks.repeat(" else 1", 40);
        row(analysed("f a b=" + thens + ";"), 0, 0, 1, 0, 1, 4);
        String lambdas = Checks.repeat("\\x.", 40) + "a";
        row(analysed("f a=" + lambdas + ";"), 0, 0, 0, 0, 2, 4);
    }
}
