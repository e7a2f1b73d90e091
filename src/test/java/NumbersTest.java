/** Promises 1 (a new object), 2 (set), 3 (strong), 25 (told). */
public final class NumbersTest {
    private static final int[] LEAST = {0, 0, 100, 0, 0, 0, 1, 0};
    private static final int[] MOST = {9000, 3000, 2000, 600, 400, 300, 900, 9};
    private static final int[] AT_FIRST = {3000, 1000, 600, 150, 120, 100, 300, 2};
    private static final Check CHECK = new Check("NumbersTest");

    private static void promise1NewObject() {
        SaltIceCream x = new SaltIceCream();
        CHECK.row("told", x::told, 0, 0, 0, 0, 0);
        CHECK.row("told", x::told, 10, 3000, 1000, 600, 150, 120, 100, 300, 2);
        CHECK.row("told", x::told, 20, 90, 80, 70, 60);
        CHECK.due("sand() without a BOX", x.sand(), SaltIceCream.STATE);
        CHECK.due("restore(0) of nothing", x.restore(0), SaltIceCream.STATE);
        CHECK.due("restore(1) of nothing", x.restore(1), SaltIceCream.STATE);
        CHECK.due("after(0, 0)", x.after(0, 0), 3000);
        CHECK.due("after(1, 0)", x.after(1, 0), SaltIceCream.OUTSIDE);
    }

    private static void promise2Set() {
        for (int which = 0; which < 8; which++) {
            SaltIceCream x = new SaltIceCream();
            CHECK.due("set below, " + which, x.set(which, LEAST[which] - 1), SaltIceCream.OUTSIDE);
            CHECK.due("set above, " + which, x.set(which, MOST[which] + 1), SaltIceCream.OUTSIDE);
            CHECK.due("refused set leaves " + which, x.told(10 + which), AT_FIRST[which]);
            CHECK.due("set the least of " + which, x.set(which, LEAST[which]), AT_FIRST[which]);
            CHECK.due("set the most of " + which, x.set(which, MOST[which]), LEAST[which]);
            CHECK.due("set the same of " + which, x.set(which, MOST[which]), MOST[which]);
            for (int other = 0; other < 8; other++) {
                CHECK.due("told of " + other, x.told(10 + other), other == which ? MOST[other] : AT_FIRST[other]);
            }
        }
        SaltIceCream x = new SaltIceCream();
        CHECK.due("set(-1, 5)", x.set(-1, 5), SaltIceCream.OUTSIDE);
        CHECK.due("set(8, 5)", x.set(8, 5), SaltIceCream.OUTSIDE);
        CHECK.due("set(-1, 0)", x.set(-1, 0), SaltIceCream.OUTSIDE);
        CHECK.due("set(8, 0)", x.set(8, 0), SaltIceCream.OUTSIDE);
        CHECK.due("set(lowest int)", x.set(Integer.MIN_VALUE, 5), SaltIceCream.OUTSIDE);
        CHECK.due("set(greatest int)", x.set(0, Integer.MAX_VALUE), SaltIceCream.OUTSIDE);
    }

    private static void promise3Strong() {
        SaltIceCream x = new SaltIceCream();
        CHECK.row("strong to 0", c -> x.strong(c, 0), -1, SaltIceCream.UNKNOWN, 90, 80, 70, 60, SaltIceCream.UNKNOWN);
        CHECK.row("strong to 200", c -> x.strong(c, 200), 0, 0, 0, 0, 0);
        CHECK.row("strong to 201", c -> x.strong(c, 201), -1, SaltIceCream.UNKNOWN, SaltIceCream.OUTSIDE,
            SaltIceCream.OUTSIDE, SaltIceCream.OUTSIDE, SaltIceCream.OUTSIDE, SaltIceCream.UNKNOWN);
        CHECK.due("strong(2, -1)", x.strong(2, -1), SaltIceCream.OUTSIDE);
        CHECK.row("told", x::told, 20, 200, 200, 200, 200);
        x.strong(1, 7);
        CHECK.row("told", x::told, 20, 200, 7, 200, 200);
    }

    private static void promise25Told() {
        SaltIceCream x = Check.withPlan("a59s2-09s0");
        Check.rebox(x, "0123456789");
        Check.saying(x, "xyz");
        CHECK.row("told", x::told, -1, SaltIceCream.OUTSIDE, 3, 18, 4, 10, SaltIceCream.OUTSIDE);
        int[] outside = {5, 9, 18, 19, 24, 25, Integer.MIN_VALUE, Integer.MAX_VALUE};
        for (int what : outside) {
            CHECK.due("told(" + what + ")", x.told(what), SaltIceCream.OUTSIDE);
        }
    }

    public static void main(String[] args) {
        promise1NewObject();
        promise2Set();
        promise3Strong();
        promise25Told();
        CHECK.end();
    }
}
