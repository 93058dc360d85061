/** Counts answers that are not the ones that are due, and types texts. */
final class Checks {
    private final String title;
    private int answers;
    private int wrong;

    Checks(String title) {
        this.title = title;
    }

    void same(String call, long due, long got) {
        answers++;
        if (due != got) {
            wrong++;
            System.out.println(title + ": " + call + " answered " + got + ", due is " + due);
        }
    }

    void alike(String what, String due, String got) {
        answers++;
        if (!due.equals(got)) {
            wrong++;
            System.out.println(title + ": " + what + " are\n  " + got + ", due are\n  " + due);
        }
    }

    void holds(String what, boolean right) {
        answers++;
        if (!right) {
            wrong++;
            System.out.println(title + ": " + what);
        }
    }

    /** THE TEXT has that FAULT at that place. */
    void fault(String text, int number, int where) {
        UsageProofs p = new UsageProofs();
        same("read " + text, -10 - number, read(p, text));
        same("place of " + text, where, p.place());
        same("told(0) behind " + text, 0, p.told(0));
    }

    /** THE TEXT has no FAULT and so many DEFS. */
    void good(String text, int defs) {
        UsageProofs p = new UsageProofs();
        same("read " + text, defs, read(p, text));
        same("place of " + text, UsageProofs.NONE, p.place());
        same("told(1) of " + text, defs, p.told(1));
    }

    void end() {
        System.out.println(title + ": " + answers + " answers, " + wrong + " wrong");
        if (wrong > 0) {
            System.exit(1);
        }
    }

    static void type(UsageProofs proofs, String text) {
        for (int from = 0; from < text.length(); from += 8) {
            int size = Math.min(8, text.length() - from);
            long packed = 0;
            for (int i = 0; i < size; i++) {
                packed = packed << 8 | (text.charAt(from + i) & 255);
            }
            proofs.type(packed, size);
        }
    }

    static int read(UsageProofs proofs, String text) {
        proofs.type(0, 0);
        type(proofs, text);
        return proofs.read();
    }

    /** What every call answers that only asks, but for THE TEXT and place(). */
    static String answers(UsageProofs p) {
        StringBuilder all = new StringBuilder();
        int defs = p.told(1);
        int things = p.told(2);
        all.append("told ").append(defs).append(' ').append(things).append(' ').append(p.told(3));
        for (int d = 0; d < defs; d++) {
            int size = p.def(d, 0);
            all.append(" | def ").append(size).append(' ').append(p.def(d, 1));
            for (int i = 0; i < 2 * size; i++) {
                all.append(" row ").append(p.row(d, i % 2, i / 2, 0)).append(' ').append(p.row(d, i % 2, i / 2, 1));
            }
        }
        for (int t = 0; t < things; t++) {
            all.append(" | thing");
            for (int what = 0; what < 5; what++) {
                all.append(' ').append(p.thing(t, what));
            }
        }
        all.append(" | check ").append(p.check()).append(" value ").append(p.value()).append(" count");
        for (int what = 0; what < 7; what++) {
            all.append(' ').append(p.count(what));
        }
        return all.toString();
    }

    static UsageProofs of(String text) {
        UsageProofs proofs = new UsageProofs();
        int defs = read(proofs, text);
        if (defs < 0) {
            throw new IllegalStateException("fault " + (-10 - defs) + " at " + proofs.place() + " in " + text);
        }
        return proofs;
    }

    static String repeat(String part, int times) {
        return part.repeat(times);
    }
}
