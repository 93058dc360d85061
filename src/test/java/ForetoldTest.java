import java.util.Random;

/** By rows that hold, nothing that was foretold so is found otherwise, and the modes change no outcome. */
public final class ForetoldTest {
    private static final Checks CHECKS = new Checks("ForetoldTest");

    public static void main(String[] args) {
        for (long seed = 0; seed < 3000; seed++) {
            String text = seed % 3 == 0 ? Programs.closed(Programs.makeWild(seed)) : Programs.make(seed);
            UsageProofs p = new UsageProofs();
            if (Checks.read(p, text) > 0) {
                p.analyse();
                CHECKS.same("check of " + text, 1, p.check());
                runAll(p, text, new Random(seed));
            }
        }
        CHECKS.end();
    }

    private static void runAll(UsageProofs p, String text, Random random) {
        for (int d = 0; d < p.told(1); d++) {
            for (int i = 0; i < 4; i++) {
                p.argument(i, random.nextInt(6));
            }
            int outcome = p.run(d, 3000, 0);
            int value = p.value();
            for (int t = 0; t < p.told(2); t++) {
                int uses = p.thing(t, 3);
                CHECKS.holds("thing " + t + " was needed too often in " + text, uses == 2 || p.thing(t, 4) <= uses);
            }
            for (int mode = 1; mode < 4; mode++) {
                CHECKS.same("mode " + mode + " of " + text, outcome, p.run(d, 3000, mode));
                CHECKS.same("value in mode " + mode + " of " + text, value, p.value());
            }
        }
    }
}
