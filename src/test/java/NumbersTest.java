/** Promises 1 (a new object), 2 (set), 3 (strong), 25 (told). */
public final class NumbersTest {
    private static final int[] LEAST = {0, 0, 100, 0, 0, 0, 1, 0};
    private static final int[] MOST = {9000, 3000, 2000, 600, 400, 300, 900, 9};
    private static final int[] AT_FIRST = {3000, 1000, 600, 150, 120, 100, 300, 2};
    private static final int[] FAR = {Integer.MIN_VALUE, -1000000, 1000000, Integer.MAX_VALUE};
    private static final int OUTSIDE = SaltIceCream.OUTSIDE, UNKNOWN = SaltIceCream.UNKNOWN, STATE = SaltIceCream.STATE;
    private static final Check CHECK = new Check("NumbersTest");

    private static void promise1NewObject() {
        CHECK.says("`SaltIceCream()`: THE PLAN, the BOX are empty.");
        SaltIceCream x = new SaltIceCream();
        CHECK.row("told", x::told, 0, 0, 0, 0, 0);
        CHECK.due("sand() without a BOX", x.sand(), STATE);
        CHECK.due("stored(1) without a BOX", x.stored(1), STATE);
        CHECK.row("held() of no PLAN", x::held, 0, 0, SaltIceCream.NONE);
        CHECK.due("wipe() of an empty PAD", x.wipe(), 0);
        CHECK.due("restore(0) of nothing", x.restore(0), STATE);
        CHECK.due("restore(1) of nothing", x.restore(1), STATE);

        CHECK.says("THE PLAN is empty at first.");
        CHECK.due("after(0, 0)", x.after(0, 0), 3000);
        CHECK.due("after(1, 0)", x.after(1, 0), OUTSIDE);
        CHECK.due("leaveOff(0)", x.leaveOff(0), SaltIceCream.NONE);
    }

    private static void objectsAreApart() {
        SaltIceCream x = Given.box(Given.plan("a59"), "12");
        SaltIceCream y = new SaltIceCream();
        x.set(0, 5);
        x.strong(0, 5);
        x.image(0);
        x.say('a');
        CHECK.row("told of another object", y::told, 0, 0, 0, 0, 0);
        CHECK.row("told of another object", y::told, 10, 3000, 1000, 600, 150, 120, 100, 300, 2);
        CHECK.row("told of another object", y::told, 20, 90, 80, 70, 60);
        CHECK.due("restore(0) of another object", y.restore(0), STATE);
    }

    private static void promise2Set() {
        CHECK.says("0 ICE of the pail (grams, 0 to 9000; 3000 at first), 1 SALT (0 to 3000; 1000), 2 WATER of the cream "
            + "(100 to 2000; 600), 3 SUGAR (0 to 600; 150), 4 FAT (0 to 400; 120), 5 WARM: how many tenths of a degree "
            + "it has at first (0 to 300; 100), 6 SHARE (1 to 900; 300) and 7 STUFF (0 to 9; 2), for 4.");
        for (int which = 0; which < 8; which++) {
            SaltIceCream x = new SaltIceCream();
            CHECK.due("set below, " + which, x.set(which, LEAST[which] - 1), OUTSIDE);
            CHECK.due("set above, " + which, x.set(which, MOST[which] + 1), OUTSIDE);
            CHECK.due("refused set leaves " + which, x.told(10 + which), AT_FIRST[which]);
            CHECK.due("set the least of " + which, x.set(which, LEAST[which]), AT_FIRST[which]);
            CHECK.due("set the most of " + which, x.set(which, MOST[which]), LEAST[which]);
            for (int other = 0; other < 8; other++) {
                CHECK.due("told of " + other, x.told(10 + other), other == which ? MOST[other] : AT_FIRST[other]);
            }
        }
        CHECK.says("`int set(int which, int v)`: 0 to 7: which it was. OUTSIDE.");
        SaltIceCream x = new SaltIceCream();
        CHECK.row("set() to 5, for which", which -> x.set(which, 5), -1,
            OUTSIDE, 3000, 1000, OUTSIDE, 150, 120, 100, 300, 2, OUTSIDE);
        CHECK.due("set(-1, 0)", x.set(-1, 0), OUTSIDE);
        CHECK.due("set(8, 0)", x.set(8, 0), OUTSIDE);
        CHECK.row("set() to the same", which -> x.set(which, 5), 3, 5, 5, 5, 5, 5);
        for (int far : FAR) {
            CHECK.due("set(" + far + ", 5)", x.set(far, 5), OUTSIDE);
            CHECK.row("set() to " + far, which -> x.set(which, far), 0, OUTSIDE, OUTSIDE, OUTSIDE, OUTSIDE, OUTSIDE,
                OUTSIDE, OUTSIDE, OUTSIDE);
        }
        CHECK.row("told", x::told, 10, 5, 5, 600, 5, 5, 5, 5, 5);
    }

    private static void promise3Strong() {
        CHECK.says("CHILDREN 0 to 3 (a to d): STRONG (0 to 200; 90, 80, 70, 60 at first).");
        SaltIceCream x = new SaltIceCream();
        CHECK.row("strong to 0", c -> x.strong(c, 0), 0, 90, 80, 70, 60);
        CHECK.row("strong to 200", c -> x.strong(c, 200), 0, 0, 0, 0, 0);
        CHECK.row("strong to 201", c -> x.strong(c, 201), 0, OUTSIDE, OUTSIDE, OUTSIDE, OUTSIDE);
        CHECK.row("strong to -1", c -> x.strong(c, -1), 0, OUTSIDE, OUTSIDE, OUTSIDE, OUTSIDE);
        CHECK.row("told", x::told, 20, 200, 200, 200, 200);

        CHECK.says("`int strong(int child, int v)`: STRONG of a CHILD: which it was. UNKNOWN; OUTSIDE.");
        CHECK.due("strong(1, 7)", x.strong(1, 7), 200);
        CHECK.due("strong(1, 7) again", x.strong(1, 7), 7);
        CHECK.row("told", x::told, 20, 200, 7, 200, 200);
        CHECK.due("strong(-1, 0)", x.strong(-1, 0), UNKNOWN);
        CHECK.due("strong(4, 0)", x.strong(4, 0), UNKNOWN);
        CHECK.due("strong(4, 201): UNKNOWN comes first", x.strong(4, 201), UNKNOWN);
        CHECK.due("strong(-1, -1): UNKNOWN comes first", x.strong(-1, -1), UNKNOWN);
        for (int far : FAR) {
            CHECK.due("strong(" + far + ", 5)", x.strong(far, 5), UNKNOWN);
            CHECK.due("strong(0, " + far + ")", x.strong(0, far), OUTSIDE);
        }
    }

    private static void promise25Told() {
        CHECK.says("`int told(int what)`: 0 signs, 1 MINUTES of THE PLAN, 2 its PARTS, 3 digits of the BOX, "
            + "10 to 17 what set() sets, 20 to 23 STRONG. OUTSIDE.");
        SaltIceCream x = Given.box(Given.plan("a59s2-09s0"), "0123456789");
        Given.signs(x, "xyz");
        CHECK.row("told", x::told, -1, OUTSIDE, 3, 18, 4, 10, OUTSIDE);
        CHECK.row("told", x::told, 9, OUTSIDE, 3000, 1000, 600, 150, 120, 100, 300, 2, OUTSIDE, OUTSIDE, 90, 80, 70, 60,
            OUTSIDE);
        for (int far : FAR) {
            CHECK.due("told(" + far + ")", x.told(far), OUTSIDE);
        }
    }

    private static void longUse() {
        CHECK.says("An object is used for at most 512 calls after it has been made; what later calls answer is free.");
        SaltIceCream x = new SaltIceCream();
        x.set(0, 0);
        for (int call = 2; call <= 509; call++) {
            CHECK.due("call " + call, x.set(0, call), call == 2 ? 0 : call - 1);
        }
        CHECK.due("call 510", x.image(0), 1);
        CHECK.due("call 511", x.set(0, 7), 509);
        CHECK.due("call 512", x.restore(0), 1);
        SaltIceCream y = new SaltIceCream();
        int calls = 0;
        for (int n = 1; n <= 12; n++) {
            for (int sign = 1; sign <= 40; sign++) {
                CHECK.due("sign " + sign, y.say('1'), sign);
            }
            CHECK.due("box() for the " + n + ".", y.box(), 40);
            calls += 41;
        }
        for (; calls < 512; calls++) {
            CHECK.due("call " + (calls + 1), y.told(3), 40);
        }
    }

    static Check all() {
        promise1NewObject();
        objectsAreApart();
        promise2Set();
        promise3Strong();
        promise25Told();
        longUse();
        return CHECK;
    }

    public static void main(String[] args) {
        all().end();
    }
}
