/** Promises 23 (image), 24 (restore). */
public final class ImageTest {
    private static final Check CHECK = new Check("ImageTest");
    private static final int OUTSIDE = SaltIceCream.OUTSIDE, STATE = SaltIceCream.STATE;

    /** MINUTES, PARTS, digits; what set() sets; STRONG. */
    private static void toldAll(String when, SaltIceCream x, long[] small, long[] numbers, long[] strong) {
        CHECK.row("told " + when, x::told, 1, small);
        CHECK.row("told " + when, x::told, 10, numbers);
        CHECK.row("told " + when, x::told, 20, strong);
    }

    private static void changeAll(SaltIceCream x, String plan, String box, int by) {
        Check.replan(x, plan);
        Check.rebox(x, box);
        for (int which = 0; which < 8; which++) {
            x.set(which, x.told(10 + which) + by);
        }
        for (int child = 0; child < 4; child++) {
            x.strong(child, x.told(20 + child) + by);
        }
    }

    private static void promise23Image() {
        SaltIceCream x = new SaltIceCream();
        CHECK.row("image()", x::image, -1, OUTSIDE, 1, 1, OUTSIDE);
        CHECK.due("image(lowest int)", x.image(Integer.MIN_VALUE), OUTSIDE);
        CHECK.row("restore()", x::restore, -1, OUTSIDE, 1, 1, OUTSIDE);
    }

    private static void promise24Restore() {
        SaltIceCream x = new SaltIceCream();
        CHECK.row("restore() of nothing", x::restore, -1, OUTSIDE, STATE, STATE, OUTSIDE);
        x.image(1);
        CHECK.due("restore(0) is still of nothing", x.restore(0), STATE);
        changeAll(x, "a59s1b19", "123", 1);
        x.image(0);
        long[] small = {18, 3, 3};
        long[] numbers = {3001, 1001, 601, 151, 121, 101, 301, 3};
        long[] strong = {91, 81, 71, 61};
        int frozen = x.after(18, 5);
        int tired = x.tired(0, 9);
        int coarse = x.stored(7);
        changeAll(x, "c21", "9", 4);
        Check.saying(x, "zz");
        CHECK.due("restore(0)", x.restore(0), 1);
        toldAll("behind restore(0)", x, small, numbers, strong);
        CHECK.due("signs are not kept", x.told(0), 2);
        CHECK.due("its FROZEN", x.after(18, 5), frozen);
        CHECK.due("its TIRED", x.tired(0, 9), tired);
        CHECK.due("its COARSE", x.stored(7), coarse);
        CHECK.due("restore(1)", x.restore(1), 1);
        toldAll("behind restore(1)", x, new long[] {0, 0, 0},
            new long[] {3000, 1000, 600, 150, 120, 100, 300, 2}, new long[] {90, 80, 70, 60});
        CHECK.due("stored(1) without a BOX again", x.stored(1), STATE);
        changeAll(x, "d99", "00", 2);
        CHECK.due("restore(0) once more", x.restore(0), 1);
        toldAll("behind a second restore(0)", x, small, numbers, strong);
        x.set(0, 5);
        x.image(0);
        x.set(0, 6);
        x.restore(0);
        CHECK.due("an IMAGE kept anew", x.told(10), 5);
    }

    public static void main(String[] args) {
        promise23Image();
        promise24Restore();
        CHECK.end();
    }
}
