/** Promises 23 (image), 24 (restore). */
public final class ImageTest {
    private static final Check CHECK = new Check("ImageTest");
    private static final int OUTSIDE = SaltIceCream.OUTSIDE, STATE = SaltIceCream.STATE;

    /** MINUTES, PARTS, digits; what set() sets; STRONG. */
    private static void toldAll(String when, SaltIceCream x, long[] small, long[] numbers, long[] strong) {
        CHECK.row("told " + when, x::told, 1, small);
        CHECK.row("told " + when, x::told, 10, numbers);
        CHECK.row("told " + when, x::told, 20, strong);
    }

    private static void toldAsNew(String when, SaltIceCream x) {
        toldAll(when, x, new long[] {0, 0, 0}, new long[] {3000, 1000, 600, 150, 120, 100, 300, 2},
            new long[] {90, 80, 70, 60});
    }

    private static void changeAll(SaltIceCream x, String plan, String box, int by) {
        Given.box(Given.plan(x, plan), box);
        for (int which = 0; which < 8; which++) {
            x.set(which, x.told(10 + which) + by);
        }
        for (int child = 0; child < 4; child++) {
            x.strong(child, x.told(20 + child) + by);
        }
    }

    private static void promise23Image() {
        CHECK.says("`int image(int n)`: All but signs is kept in an IMAGE (0, 1): 1. OUTSIDE.");
        SaltIceCream x = new SaltIceCream();
        CHECK.row("image()", x::image, -1, OUTSIDE, 1, 1, OUTSIDE);
        CHECK.due("image(lowest int)", x.image(Integer.MIN_VALUE), OUTSIDE);
        CHECK.due("image(greatest int)", x.image(Integer.MAX_VALUE), OUTSIDE);
        Given.signs(x, "zz");
        x.image(0);
        CHECK.due("signs stay on the PAD", x.told(0), 2);
        x.say('z');
        CHECK.due("restore(0)", x.restore(0), 1);
        CHECK.due("signs are not kept", x.told(0), 3);
        x.wipe();
        x.restore(0);
        CHECK.due("signs do not come again", x.told(0), 0);
        x.set(0, 5);
        CHECK.due("image(0) anew", x.image(0), 1);
        x.set(0, 6);
        x.restore(0);
        CHECK.due("an IMAGE kept anew", x.told(10), 5);
        x.restore(1);
        CHECK.due("the other IMAGE", x.told(10), 3000);
        SaltIceCream y = new SaltIceCream();
        y.image(0);
        y.set(0, 7);
        y.image(1);
        y.restore(0);
        CHECK.due("an IMAGE that was kept later is still kept", y.restore(1), 1);
        CHECK.due("as it was", y.told(10), 7);
    }

    private static void promise24Restore() {
        CHECK.says("`int restore(int n)`: It is as it was when it was kept: 1. OUTSIDE; STATE: it was not.");
        SaltIceCream x = new SaltIceCream();
        CHECK.row("restore() of nothing", x::restore, -1, OUTSIDE, STATE, STATE, OUTSIDE);
        CHECK.due("restore(lowest int)", x.restore(Integer.MIN_VALUE), OUTSIDE);
        CHECK.due("restore(greatest int)", x.restore(Integer.MAX_VALUE), OUTSIDE);
        x.image(1);
        CHECK.due("restore(0) is still of nothing", x.restore(0), STATE);
        changeAll(x, "a59s1b19", "123", 1);
        x.image(0);
        long[] small = {18, 3, 3};
        long[] numbers = {3001, 1001, 601, 151, 121, 101, 301, 3};
        long[] strong = {91, 81, 71, 61};
        int frozen = x.after(18, 5);
        int tired = x.tired(0, 9);
        int coarse = x.stored(7);
        changeAll(x, "c21", "9", 4);
        CHECK.due("restore(0)", x.restore(0), 1);
        toldAll("behind restore(0)", x, small, numbers, strong);
        CHECK.due("its FROZEN", x.after(18, 5), frozen);
        CHECK.due("its TIRED", x.tired(0, 9), tired);
        CHECK.due("its COARSE", x.stored(7), coarse);
        CHECK.due("restore(1)", x.restore(1), 1);
        toldAsNew("behind restore(1)", x);
        CHECK.due("stored(1) without a BOX again", x.stored(1), STATE);
        changeAll(x, "d99", "00", 2);
        CHECK.due("restore(0) once more", x.restore(0), 1);
        toldAll("behind a second restore(0)", x, small, numbers, strong);
        CHECK.due("its COARSE", x.stored(7), coarse);
        CHECK.due("restore(0) at once again", x.restore(0), 1);
        toldAll("behind a third restore(0)", x, small, numbers, strong);
    }

    static Check all() {
        promise23Image();
        promise24Restore();
        return CHECK;
    }

    public static void main(String[] args) {
        all().end();
    }
}
