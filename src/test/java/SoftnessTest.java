/** Promises 20 (iceAt), 21 (soft), 22 (sugarFor). */
public final class SoftnessTest {
    private static final Check CHECK = new Check("SoftnessTest");
    private static final int OUTSIDE = SaltIceCream.OUTSIDE, NONE = SaltIceCream.NONE;
    private static final long LOST_OUTSIDE = -1000000000000000002L;
    private static final int WATER = 2, SUGAR = 3, SHARE = 6;

    private static void iceAt(SaltIceCream x, int t, long upper, long lower) {
        CHECK.row("iceAt(" + t + ")", part -> x.iceAt(t, part), -1, LOST_OUTSIDE, upper, lower, LOST_OUTSIDE);
    }

    private static void promise20IceAt() {
        SaltIceCream x = new SaltIceCream();
        iceAt(x, 1, 0, 1);
        iceAt(x, 13, 0, 1);
        iceAt(x, 14, 1, 28);
        iceAt(x, 100, 173, 200);
        iceAt(x, 300, 191, 200);
        iceAt(x, 0, LOST_OUTSIDE, LOST_OUTSIDE);
        iceAt(x, -5, LOST_OUTSIDE, LOST_OUTSIDE);
        iceAt(x, 301, LOST_OUTSIDE, LOST_OUTSIDE);
        x.set(SUGAR, 0);
        iceAt(x, 1, 1, 1);
        x.set(SUGAR, 100);
        iceAt(x, 9, 0, 1);
        x.set(WATER, 1999);
        x.set(SUGAR, 1);
        iceAt(x, 299, 597647, 597701);
    }

    private static void soft(SaltIceCream x, int water, int sugar, int share, int due) {
        x.set(WATER, water);
        x.set(SUGAR, sugar);
        x.set(SHARE, share);
        CHECK.due("soft() of " + water + ", " + sugar + ", " + share, x.soft(), due);
    }

    private static void promise21Soft() {
        SaltIceCream x = new SaltIceCream();
        soft(x, 600, 150, 300, 19);
        soft(x, 600, 150, 900, 135);
        soft(x, 600, 150, 899, 133);
        soft(x, 600, 150, 1, 13);
        soft(x, 600, 0, 900, NONE);
        soft(x, 2000, 1, 900, NONE);
        soft(x, 540, 1, 900, 1);
        soft(x, 541, 1, 900, NONE);
        soft(x, 100, 600, 300, 300);
        soft(x, 2000, 600, 900, 162);
    }

    private static void promise22SugarFor() {
        SaltIceCream x = new SaltIceCream();
        int[][] dues = {{0, OUTSIDE}, {1, 8}, {9, 70}, {10, 78}, {77, 599}, {78, NONE}, {300, NONE}, {301, OUTSIDE}};
        for (int[] due : dues) {
            CHECK.due("sugarFor(" + due[0] + ")", x.sugarFor(due[0]), due[1]);
        }
        x.set(SUGAR, 600);
        CHECK.due("SUGAR that there is does not count", x.sugarFor(9), 70);
        CHECK.due("and stays", x.told(13), 600);
        x.set(SHARE, 900);
        CHECK.due("sugarFor(300), 180000 / 540", x.sugarFor(300), 334);
        x.set(WATER, 2000);
        CHECK.due("sugarFor(162)", x.sugarFor(162), 600);
        CHECK.due("sugarFor(163)", x.sugarFor(163), NONE);
        CHECK.due("sugarFor(lowest int)", x.sugarFor(Integer.MIN_VALUE), OUTSIDE);
    }

    public static void main(String[] args) {
        promise20IceAt();
        promise21Soft();
        promise22SugarFor();
        CHECK.end();
    }
}
