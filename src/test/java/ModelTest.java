import java.util.Random;

/** Compares every answer with those of Model, on programs and calls made by a fixed rule. */
public final class ModelTest {
    private static final Checks CHECKS = new Checks("ModelTest");
    private static int[] outcomes = new int[7];
    private static int[] faults = new int[6];

    public static void main(String[] args) throws InterruptedException {
        int programs = args.length > 0 ? Integer.parseInt(args[0]) : 1000;
        long base = args.length > 1 ? Long.parseLong(args[1]) : 0;
        // The model recurses as deep as programs wait.
        Thread thread = new Thread(null, () -> compareAll(programs, base), "model", 512L << 20);
        thread.start();
        thread.join();
        StringBuilder seen = new StringBuilder("ModelTest: outcomes");
        for (int outcome : outcomes) {
            seen.append(' ').append(outcome);
        }
        seen.append(", faults");
        for (int fault : faults) {
            seen.append(' ').append(fault);
        }
        System.out.println(seen);
        for (int i = 0; i < 7; i++) {
            CHECKS.holds("no run came to outcome " + i, outcomes[i] > 0);
        }
        CHECKS.end();
    }

    private static void compareAll(int programs, long base) {
        for (long seed = base; seed < base + programs; seed++) {
            String text = Programs.make(seed);
            compare(text, seed);
            for (int i = 0; i < 4; i++) {
                compareRead(Programs.spoil(text, seed * 31 + i), text);
            }
        }
        for (long seed = base; seed < base + programs; seed++) {
            String text = Programs.closed(Programs.makeWild(seed));
            if (new Random(seed).nextInt(4) == 0) {
                compare(text, seed);
            } else {
                compareRead(text, "f a=a;");
            }
        }
        compareFull();
        for (String text : SPECIAL) {
            compare(text, text.length());
        }
        for (String part : new String[] {"a+", "a ", "1a ", "(a)", "a*"}) {
            compare("f a=" + part.repeat(1990 / part.length()) + "a;", part.length());
        }
    }

    /** 196 to 200 THINGS, then what would make more, whole, cut at every place, and with a byte there that is no token. */
    private static void compareFull() {
        String[] tails = {"split 1 as x,y in x", "split 1 as x,x in x", "split (split 1 as a,b in a) as x , y in x",
            "let x=1 in x", "(\\x.x)", "\\x.\\y.x", "split 1 as x,y in split y as x,y in x"};
        for (int things = 196; things <= 200; things++) {
            String ahead = "f=1" + "+(\\x.1)".repeat(things / 2) + (things % 2 == 1 ? "+(let x=1 in 1)" : "") + "+(";
            for (String tail : tails) {
                String text = ahead + tail + ");";
                for (int end = ahead.length(); end <= text.length(); end++) {
                    compareRead(text.substring(0, end), "f a=a;");
                    compareRead(text.substring(0, end) + "?", "f a=a;");
                }
            }
        }
    }

    private static final String[] SPECIAL = {
        "",
        "s n acc = if n < 1 then acc else s (n - 1) (acc + n);",
        "s n acc = if n < 1 then acc else s (n - 1) (n + acc); m = s 500 0; k = s 150 0;",
        "k x y = x; f a b = let g = k a in g b + b; h a = let g = k a in g 1 + g 2;",
        "tw f x = f (f x); id y = y; m n = tw (tw id) n;",
        "loop x = loop x; f a b = a; m = f 1 (loop 1); n = loop (loop 1);",
        "d a = a; w a b = d b; m x = w x x + w 1 x;",
        "t a b c d = a + b * c - d; u = let g = t 1 2 3 in g 4 + g 5 + g 6 + g 7;",
        "p a = (a, (a, a)); q = split p 3 as x, y in split y as u, v in x + u * v;",
        "r n f = if n < 1 then f 0 else r (n - 1) (\\x. f (x + n)); m a = r a (\\x. x);",
        "y n = let x = y (n - 1) in if n < 1 then 0 else x + 1; m = y 120; o = y 190;",
        "f = f; g = g 1; h = (h, h); i = split h as a, b in split a as c, d in i;",
        "a1 x = x x; om = a1 a1; b1 = (\\x. x x) (\\x. x x);",
        "l g=(\\x.l g) (g 4);t a b c d=w (t a b c);w g=g 1;f=w (t 1 2 3);q=split (1+1,1+1) as x,y in q;",
        "r x=r x;s=let x=1 in s;u=(\\x.u2) 1;u2=u;v=v2 v2;v2 a=v;z n=if n<1 then 0 else (\\x.z (n-1)) (n,n);",
        "f x=f (x,x);g p=split p as x,y in g (y,x);h=g (1,2);w a=w2 (a,a);w2 p=split p as x,y in w x;",
        "f a = let u = a + 1 in let v = u in v; g a = let u = a * a in (\\x. u) 1 + (\\x. u) 2;",
    };

    private static void typeBoth(UsageProofs p, Model m, String text) {
        CHECKS.same("type(0, 0)", m.type(0, 0), p.type(0, 0));
        for (int from = 0; from < text.length(); from += 8) {
            int size = Math.min(8, text.length() - from);
            long packed = -1;
            for (int i = 0; i < size; i++) {
                packed = packed << 8 | text.charAt(from + i);
            }
            CHECKS.same("type", m.type(packed, size), p.type(packed, size));
        }
    }

    private static void readBoth(UsageProofs p, Model m, String text) {
        typeBoth(p, m, text);
        int due = m.read();
        CHECKS.same("read " + text, due, p.read());
        CHECKS.same("place of " + text, m.place(), p.place());
        if (due < 0) {
            faults[-10 - due]++;
        }
    }

    private static void compareRead(String spoiled, String text) {
        UsageProofs p = new UsageProofs();
        Model m = new Model();
        readBoth(p, m, text);
        readBoth(p, m, spoiled);
        compareTold(p, m, spoiled);
        CHECKS.same("check of " + spoiled, m.check(), p.check());
    }

    private static void compareTold(UsageProofs p, Model m, String text) {
        for (int what = -1; what < 5; what++) {
            CHECKS.same("told(" + what + ") of " + text, m.told(what), p.told(what));
        }
        for (int d = -1; d <= m.told(1); d++) {
            for (int what = -1; what < 3; what++) {
                CHECKS.same("def of " + text, m.def(d, what), p.def(d, what));
            }
        }
        compareThings(p, m, text);
    }

    private static void compareThings(UsageProofs p, Model m, String text) {
        for (int t = -1; t <= m.told(2); t++) {
            for (int what = -1; what < 6; what++) {
                String call = "thing(" + t + ", " + what + ") of " + text;
                CHECKS.same(call, m.thing(t, what), p.thing(t, what));
            }
        }
    }

    private static void compareRows(UsageProofs p, Model m, String text) {
        for (int d = -1; d <= m.told(1); d++) {
            for (int under = -1; under < 3; under++) {
                for (int i = -1; i < 5; i++) {
                    for (int what = -1; what < 3; what++) {
                        CHECKS.same("row of " + text, m.row(d, under, i, what), p.row(d, under, i, what));
                    }
                }
            }
        }
        CHECKS.same("check of " + text, m.check(), p.check());
    }

    private static void compare(String text, long seed) {
        Random random = new Random(seed);
        UsageProofs p = new UsageProofs();
        Model m = new Model();
        readBoth(p, m, text);
        compareTold(p, m, text);
        compareRows(p, m, text);
        compareRuns(p, m, text, random, 2);
        CHECKS.same("analyse of " + text, m.analyse(), p.analyse());
        CHECKS.same("told(3)", m.told(3), p.told(3));
        compareRows(p, m, text);
        compareThings(p, m, text);
        compareRuns(p, m, text, random, 6);
        for (int times = 0; times < 2; times++) {
            plantSome(p, m, text, random);
            compareRows(p, m, text);
            compareThings(p, m, text);
            compareRuns(p, m, text, random, 3);
        }
        CHECKS.same("analyse again of " + text, m.analyse(), p.analyse());
        compareRows(p, m, text);
    }

    private static void plantSome(UsageProofs p, Model m, String text, Random random) {
        for (int i = 0; i < 6; i++) {
            int d = random.nextInt(m.told(1) + 2) - 1;
            int under = random.nextInt(9) == 0 ? 2 : random.nextInt(2);
            int parameter = random.nextInt(4);
            int count = random.nextInt(5) - 1;
            int demand = count <= 0 ? random.nextInt(2) : random.nextInt(6);
            String call = "plant(" + d + ", " + under + ", " + parameter + ", " + count + ", " + demand + ") of " + text;
            CHECKS.same(call, m.plant(d, under, parameter, count, demand),
                    p.plant(d, under, parameter, count, demand));
        }
    }

    private static void compareRuns(UsageProofs p, Model m, String text, Random random, int times) {
        for (int i = 0; i < times; i++) {
            for (int a = 0; a < 4; a++) {
                int v = random.nextInt(6) == 0 ? random.nextInt() : random.nextInt(12);
                CHECKS.same("argument", m.argument(a, v), p.argument(a, v));
            }
            int d = random.nextInt(m.told(1) + 1);
            int steps = random.nextInt(3) == 0 ? random.nextInt(60) : random.nextInt(2) == 0 ? 10000 : random.nextInt(3000);
            int mode = random.nextInt(4);
            String call = "run(" + d + ", " + steps + ", " + mode + ") of " + text;
            int due = m.run(d, steps, mode);
            CHECKS.same(call, due, p.run(d, steps, mode));
            CHECKS.same("value behind " + call, m.value(), p.value());
            for (int what = -1; what < 8; what++) {
                CHECKS.same("count(" + what + ") behind " + call, m.count(what), p.count(what));
            }
            for (int t = 0; t < m.told(2); t++) {
                CHECKS.same("COUNTED " + t + " behind " + call, m.thing(t, 4), p.thing(t, 4));
            }
            if (due >= 0) {
                outcomes[due]++;
            }
        }
    }
}
