import java.util.ArrayList;
import java.util.List;

/**
 * "Refusals are answers below 0, the first that fits as the call names them; they change nothing": each refused call
 * is made on one of two objects that are alike, and all that both answer behind it is compared.
 */
public final class RefusalsTest {
    private static final int NONE = UsageProofs.NONE;
    private static final int BAD = UsageProofs.BAD;
    private static final int FULL = UsageProofs.FULL;
    private static final int[] OUTSIDE = {Integer.MIN_VALUE, -1000, -1, 10001, 65536, Integer.MAX_VALUE};
    private static final Checks CHECKS = new Checks("RefusalsTest");

    private interface Call {
        int on(UsageProofs p);
    }

    private static final class Refused {
        final String name;
        final int due;
        final Call call;

        Refused(String name, int due, Call call) {
            this.name = name;
            this.due = due;
            this.call = call;
        }
    }

    private interface Maker {
        UsageProofs make();
    }

    public static void main(String[] args) {
        testNewObject();
        testTextThatIsTyped();
        testFullText();
        testProgramThatRan();
        testProgramWithoutARun();
        testCallsThatOnlyAsk();
        CHECKS.end();
    }

    private static void compare(String state, Maker maker, List<Refused> calls) {
        String due = later(maker.make());
        for (Refused refused : calls) {
            UsageProofs p = maker.make();
            CHECKS.same(refused.name + " of " + state, refused.due, refused.call.on(p));
            CHECKS.same(refused.name + " of " + state + " again", refused.due, refused.call.on(p));
            CHECKS.alike("later answers behind " + refused.name + " of " + state, due, later(p));
        }
    }

    /** All that an object answers from now on, if it is asked, run, analysed, and its text is read. */
    private static String later(UsageProofs p) {
        StringBuilder all = new StringBuilder();
        all.append(p.told(0)).append(' ').append(p.place()).append(' ').append(Checks.answers(p)).append(" later");
        runs(p, all);
        for (int i = 0; i < 4; i++) {
            all.append(' ').append(p.argument(i, 50 + i));
        }
        all.append(' ').append(p.analyse()).append(' ').append(Checks.answers(p));
        runs(p, all);
        all.append(' ').append(p.type(0x20613bL, 3)).append(' ').append(p.read()).append(' ').append(p.place());
        all.append(' ').append(p.told(0)).append(' ').append(Checks.answers(p));
        runs(p, all);
        return all.toString();
    }

    private static void runs(UsageProofs p, StringBuilder all) {
        int defs = p.told(1);
        for (int d = 0; d < defs; d++) {
            for (int mode = 0; mode < 4; mode += 3) {
                all.append(' ').append(p.run(d, 200, mode)).append(' ').append(p.value());
                all.append(' ').append(p.count(0)).append(' ').append(p.count(4));
            }
        }
    }

    /** Refused whatever the state is. */
    private static List<Refused> always() {
        List<Refused> calls = new ArrayList<>();
        for (int far : OUTSIDE) {
            calls.add(new Refused("type n " + far, BAD, p -> p.type(0x3f3f, far)));
            calls.add(new Refused("def d " + far, NONE, p -> p.def(far, 0)));
            calls.add(new Refused("thing t " + far, NONE, p -> p.thing(far, 3)));
            calls.add(new Refused("row d " + far, NONE, p -> p.row(far, 0, 0, 0)));
            calls.add(new Refused("plant d " + far, NONE, p -> p.plant(far, 0, 0, 2, 4)));
            calls.add(new Refused("argument i " + far, NONE, p -> p.argument(far, 77)));
            calls.add(new Refused("run d " + far, NONE, p -> p.run(far, 100, 0)));
            calls.add(new Refused("count what " + far, BAD, p -> p.count(far)));
            calls.add(new Refused("told what " + far, BAD, p -> p.told(far)));
        }
        calls.add(new Refused("type n 9", BAD, p -> p.type(0x3f3f, 9)));
        calls.add(new Refused("argument i 4", NONE, p -> p.argument(4, 77)));
        calls.add(new Refused("count what 7", BAD, p -> p.count(7)));
        calls.add(new Refused("told what 4", BAD, p -> p.told(4)));
        return calls;
    }

    private static List<Refused> withoutDefs() {
        List<Refused> calls = always();
        calls.add(new Refused("def 0", NONE, p -> p.def(0, 0)));
        calls.add(new Refused("def 0 and a BAD what", NONE, p -> p.def(0, 9)));
        calls.add(new Refused("thing 0", NONE, p -> p.thing(0, 0)));
        calls.add(new Refused("thing 0 and a BAD what", NONE, p -> p.thing(0, 9)));
        calls.add(new Refused("row 0", NONE, p -> p.row(0, 0, 0, 0)));
        calls.add(new Refused("plant 0", NONE, p -> p.plant(0, 0, 0, 1, 0)));
        calls.add(new Refused("run 0", NONE, p -> p.run(0, 0, 0)));
        calls.add(new Refused("run 0 and all BAD", NONE, p -> p.run(0, -1, 4)));
        return calls;
    }

    private static void testNewObject() {
        compare("a new object", UsageProofs::new, withoutDefs());
    }

    private static void testTextThatIsTyped() {
        compare("a text", () -> {
            UsageProofs p = new UsageProofs();
            Checks.type(p, "k a=");
            p.argument(2, 8);
            return p;
        }, withoutDefs());
    }

    private static void testFullText() {
        List<Refused> calls = new ArrayList<>();
        for (int n = 1; n <= 8; n++) {
            int size = n;
            calls.add(new Refused("type " + n, FULL, p -> p.type(0x3f3f3f3f3f3f3f3fL, size)));
        }
        calls.add(new Refused("type 9", BAD, p -> p.type(0, 9)));
        calls.add(new Refused("type -1", BAD, p -> p.type(0, -1)));
        compare("a full text", () -> {
            UsageProofs p = new UsageProofs();
            Checks.type(p, "k a=a+1;" + Checks.repeat(" ", 1992));
            return p;
        }, calls);
        List<Refused> most = new ArrayList<>();
        for (int n = 4; n <= 8; n++) {
            int size = n;
            most.add(new Refused("type " + n, FULL, p -> p.type(0x3f3f3f3f3f3f3f3fL, size)));
        }
        compare("an almost full text", () -> {
            UsageProofs p = new UsageProofs();
            Checks.type(p, "k a=" + Checks.repeat("\n", 1993));
            return p;
        }, most);
    }

    /** DEF 0 with 2 PARAMETERS, DEF 1 with none; 4 THINGS. */
    private static UsageProofs read() {
        UsageProofs p = Checks.of("f a b=let x=a*b in x+x;g=(f 3) 4;h c=c;");
        p.plant(2, 0, 0, 1, 2);
        for (int i = 0; i < 4; i++) {
            p.argument(i, 6 + i);
        }
        return p;
    }

    private static UsageProofs ran() {
        UsageProofs p = read();
        p.analyse();
        p.run(0, 100, 0);
        Checks.read(p, "f a=1;=");
        Checks.type(p, "k a=");
        return p;
    }

    private static List<Refused> withDefs() {
        List<Refused> calls = always();
        calls.add(new Refused("def 3", NONE, p -> p.def(3, 0)));
        calls.add(new Refused("def 3 and a BAD what", NONE, p -> p.def(3, 2)));
        calls.add(new Refused("def what 2", BAD, p -> p.def(2, 2)));
        calls.add(new Refused("def what -1", BAD, p -> p.def(0, -1)));
        calls.add(new Refused("thing 4", NONE, p -> p.thing(4, 0)));
        calls.add(new Refused("thing 4 and a BAD what", NONE, p -> p.thing(4, 5)));
        calls.add(new Refused("thing what 5", BAD, p -> p.thing(3, 5)));
        calls.add(new Refused("thing what -1", BAD, p -> p.thing(0, -1)));
        calls.add(new Refused("row of no PARAMETER", NONE, p -> p.row(1, 0, 0, 0)));
        calls.add(new Refused("row 2 and all BAD", NONE, p -> p.row(0, 2, 2, 2)));
        calls.add(new Refused("row under 2", BAD, p -> p.row(0, 2, 1, 0)));
        calls.add(new Refused("row under -1", BAD, p -> p.row(0, -1, 1, 0)));
        calls.add(new Refused("row what 2", BAD, p -> p.row(0, 1, 1, 2)));
        calls.add(new Refused("row what -1", BAD, p -> p.row(0, 1, 1, -1)));
        plants(calls);
        calls.add(new Refused("run 3", NONE, p -> p.run(3, 100, 0)));
        calls.add(new Refused("run 3 and all BAD", NONE, p -> p.run(3, 10001, 4)));
        calls.add(new Refused("run steps 10001", BAD, p -> p.run(1, 10001, 0)));
        calls.add(new Refused("run steps -1", BAD, p -> p.run(1, -1, 0)));
        calls.add(new Refused("run mode 4", BAD, p -> p.run(1, 100, 4)));
        calls.add(new Refused("run mode -1", BAD, p -> p.run(1, 100, -1)));
        return calls;
    }

    private static void plants(List<Refused> calls) {
        calls.add(new Refused("plant DEF 3", NONE, p -> p.plant(3, 0, 0, 2, 4)));
        calls.add(new Refused("plant of no PARAMETER", NONE, p -> p.plant(1, 0, 0, 2, 4)));
        calls.add(new Refused("plant PARAMETER 2", NONE, p -> p.plant(0, 0, 2, 2, 4)));
        calls.add(new Refused("plant PARAMETER -1", NONE, p -> p.plant(0, 0, -1, 2, 4)));
        calls.add(new Refused("plant PARAMETER 2 and all BAD", NONE, p -> p.plant(0, 2, 2, 3, 5)));
        calls.add(new Refused("plant under 2", BAD, p -> p.plant(0, 2, 0, 2, 4)));
        calls.add(new Refused("plant under -1", BAD, p -> p.plant(2, -1, 0, 2, 4)));
        calls.add(new Refused("plant COUNT 3", BAD, p -> p.plant(0, 1, 0, 3, 4)));
        calls.add(new Refused("plant COUNT -1", BAD, p -> p.plant(0, 1, 0, -1, 0)));
        calls.add(new Refused("plant DEMAND 5", BAD, p -> p.plant(0, 1, 0, 2, 5)));
        calls.add(new Refused("plant DEMAND -1", BAD, p -> p.plant(0, 1, 0, 2, -1)));
        for (int demand = 1; demand <= 4; demand++) {
            int of = demand;
            calls.add(new Refused("plant none with a DEMAND", BAD, p -> p.plant(2, 0, 0, 0, of)));
        }
    }

    private static void testProgramThatRan() {
        compare("a PROGRAM that ran", RefusalsTest::ran, withDefs());
    }

    private static void testProgramWithoutARun() {
        compare("a PROGRAM that was read", RefusalsTest::read, withDefs());
    }

    /** All that only ask change nothing either. */
    private static void testCallsThatOnlyAsk() {
        UsageProofs p = ran();
        String first = Checks.answers(p) + p.told(0) + p.place();
        CHECKS.alike("the second answers", first, Checks.answers(p) + p.told(0) + p.place());
        UsageProofs q = ran();
        Checks.answers(q);
        CHECKS.alike("later answers", later(ran()), later(q));
    }
}
