/** Counts answers that are not the ones that are due, and types texts. */
final class Checks {
    private final String title;
    private int answers;
    private int wrong;

    Checks(String title) {
        this.title = title;
    }

    void same(String call, long due, long got) {
        answers++;
        if (due != got) {
            wrong++;
            System.out.println(title + ": " + call + " answered " + got + ", due is " + due);
        }
    }

    void holds(String what, boolean right) {
        answers++;
        if (!right) {
            wrong++;
            System.out.println(title + ": " + what);
        }
    }

    void end() {
        System.out.println(title + ": " + answers + " answers, " + wrong + " wrong");
        if (wrong > 0) {
            System.exit(1);
        }
    }

    static void type(UsageProofs proofs, String text) {
        for (int from = 0; from < text.length(); from += 8) {
            int size = Math.min(8, text.length() - from);
            long packed = 0;
            for (int i = 0; i < size; i++) {
                packed = packed << 8 | (text.charAt(from + i) & 255);
            }
            proofs.type(packed, size);
        }
    }

    static int read(UsageProofs proofs, String text) {
        proofs.type(0, 0);
        type(proofs, text);
        return proofs.read();
    }

    static UsageProofs of(String text) {
        UsageProofs proofs = new UsageProofs();
        int defs = read(proofs, text);
        if (defs < 0) {
            throw new IllegalStateException("fault " + (-10 - defs) + " at " + proofs.place() + " in " + text);
        }
        return proofs;
    }

    static String repeat(String part, int times) {
        return part.repeat(times);
    }
}
