/** Promises 16 (box), 17 (stored), 18 (grown), 19 (sand). */
public final class BoxTest {
    private static final Check CHECK = new Check("BoxTest");
    private static final int OUTSIDE = SaltIceCream.OUTSIDE, NONE = SaltIceCream.NONE, STATE = SaltIceCream.STATE;
    private static final int ICE = 0, SALT = 1, SHARE = 6, STUFF = 7;

    /** 19 grams of SIZE 29, and no STUFF. */
    private static SaltIceCream nineteen() {
        SaltIceCream x = RunTest.water(600, "a91");
        x.set(ICE, 1000);
        x.set(SALT, 174);
        x.set(STUFF, 0);
        return x;
    }

    private static void promise16Box() {
        SaltIceCream x = new SaltIceCream();
        CHECK.due("box() of no signs", x.box(), SaltIceCream.NO);
        Check.saying(x, "12a");
        CHECK.due("box() with a FAULT", x.box(), SaltIceCream.NO);
        CHECK.due("the PAD stays", x.told(0), 3);
        CHECK.due("there is no BOX", x.told(3), 0);
        Check.saying(x, "120");
        CHECK.due("box()", x.box(), 3);
        CHECK.due("the PAD is empty", x.told(0), 0);
        CHECK.due("told(3)", x.told(3), 3);
        Check.saying(x, "9");
        CHECK.due("another BOX", x.box(), 1);
        CHECK.due("box() of nothing", x.box(), SaltIceCream.NO);
        CHECK.due("the BOX stays", x.told(3), 1);
        Check.saying(x, "1234567890123456789012345678901234567890");
        CHECK.due("the longest BOX", x.box(), 40);
        CHECK.due("THE PLAN is another thing", x.told(1), 0);
    }

    private static void promise17Stored() {
        SaltIceCream x = nineteen();
        CHECK.row("stored() without a BOX", x::stored, -1, OUTSIDE, 0, STATE);
        CHECK.row("stored() without a BOX", x::stored, 99, STATE, OUTSIDE);
        Check.rebox(x, "5");
        CHECK.row("stored()", x::stored, -1, OUTSIDE, 0, 473, 736, 842, 894, 947, 947);
        CHECK.row("stored()", x::stored, 99, 947, OUTSIDE);
        Check.rebox(x, "05");
        CHECK.row("stored() by 05", x::stored, 0, 0, 0, 473, 473, 736, 736, 842);
        Check.rebox(x, "500");
        CHECK.row("stored() by 500", x::stored, 0, 0, 473, 473, 473, 736);
        x.set(STUFF, 9);
        CHECK.row("stored() by much STUFF: 95 / 55 grams", x::stored, 0, 0, 52, 52, 52, 105);
        Check.replan(x, "");
        CHECK.row("stored() of nothing", x::stored, 0, 0, 0, 0);
    }

    private static void promise18Grown() {
        SaltIceCream x = nineteen();
        CHECK.row("grown(0)", size -> x.grown(0, size), 28, 0, 19, 0);
        CHECK.due("grown(1, 29) without a BOX", x.grown(1, 29), STATE);
        CHECK.due("grown(1, 9) without a BOX", x.grown(1, 9), OUTSIDE);
        Check.rebox(x, "5");
        CHECK.row("29", day -> x.grown(day, 29), 0, 19, 10, 5, 3, 2, 1, 1);
        CHECK.row("29 at the last", day -> x.grown(day, 29), 98, 1, 1, OUTSIDE);
        CHECK.row("33", day -> x.grown(day, 33), 0, 0, 9, 10, 7);
        CHECK.row("37", day -> x.grown(day, 37), 0, 0, 0, 4, 7);
        CHECK.row("40", day -> x.grown(day, 40), 0, 0, 0, 0, 2);
        CHECK.row("grown() edges", day -> x.grown(day, 10), -1, OUTSIDE, 0);
        CHECK.row("grown() edges", day -> x.grown(day, 63), 100, OUTSIDE, OUTSIDE);
        CHECK.row("grown(1) edges", size -> x.grown(1, size), 9, OUTSIDE, 0);
        CHECK.row("grown(1) edges", size -> x.grown(1, size), 63, 0, OUTSIDE);
        CHECK.due("what grows is not the PLAN's", x.flakes(1, 29), 19);

        SaltIceCream great = RunTest.water(600, "-06a11");
        great.set(STUFF, 0);
        Check.rebox(great, "9");
        CHECK.row("60", day -> great.grown(day, 60), 0, 4, 1, 1);
        CHECK.row("62", day -> great.grown(day, 62), 0, 0, 3, 1);
        CHECK.row("63", day -> great.grown(day, 63), 0, 0, 0, 2, 2);
        SaltIceCream small = RunTest.water(600, "a19");
        small.set(STUFF, 0);
        small.set(ICE, 1000);
        small.set(SALT, 12);
        Check.rebox(small, "9");
        CHECK.row("11", day -> small.grown(day, 11), 0, 9, 1, 1);
        CHECK.row("21", day -> small.grown(day, 21), 0, 0, 8, 1);
        CHECK.row("26", day -> small.grown(day, 26), 0, 0, 0, 7);
        small.set(SALT, 85);
        Check.replan(small, "a91");
        CHECK.row("20", day -> small.grown(day, 20), 0, 10, 1);
        CHECK.row("26", day -> small.grown(day, 26), 0, 0, 9);
        SaltIceCream usual = nineteen();
        usual.set(STUFF, 2);
        Check.rebox(usual, "95");
        CHECK.row("29 by STUFF 2", day -> usual.grown(day, 29), 0, 19, 11, 9);
    }

    private static void promise19Sand() {
        SaltIceCream x = nineteen();
        CHECK.due("sand() without a BOX", x.sand(), STATE);
        Check.rebox(x, "5");
        int[][] dues = {{1, 1}, {473, 1}, {474, 2}, {736, 2}, {737, 3}, {842, 3}, {843, 4}, {894, 4}, {895, 5}, {900, 5}};
        for (int[] due : dues) {
            x.set(SHARE, due[0]);
            CHECK.due("sand() by SHARE " + due[0], x.sand(), due[1]);
        }
        Check.rebox(x, "0");
        CHECK.due("sand() in a still BOX", x.sand(), NONE);
        x.set(SALT, 175);
        CHECK.due("sand() of coarse cream", x.sand(), 1);
        Check.replan(x, "");
        CHECK.due("sand() of nothing", x.sand(), NONE);
        // one swing in 40 DAYS: 9 of 19 grams on DAY 40, 5 more on DAY 80, no more up to 99
        SaltIceCream slow = nineteen();
        Check.rebox(slow, "0000000000000000000000000000000000000005");
        slow.set(SHARE, 473);
        CHECK.due("sand() late", slow.sand(), 40);
        slow.set(SHARE, 736);
        CHECK.due("sand() later", slow.sand(), 80);
        slow.set(SHARE, 737);
        CHECK.due("sand() too late", slow.sand(), NONE);
        Check.rebox(slow, "000000000000000000000000000000005");
        slow.set(SHARE, 842);
        CHECK.due("sand() on the last DAY", slow.sand(), 99);
        slow.set(SHARE, 843);
        CHECK.due("sand() behind the last DAY", slow.sand(), NONE);
    }

    public static void main(String[] args) {
        promise16Box();
        promise17Stored();
        promise18Grown();
        promise19Sand();
        CHECK.end();
    }
}
