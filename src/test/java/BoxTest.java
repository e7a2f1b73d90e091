/** Promises 16 (box), 17 (stored), 18 (grown), 19 (sand). */
public final class BoxTest {
    private static final Check CHECK = new Check("BoxTest");
    private static final int OUTSIDE = SaltIceCream.OUTSIDE, NONE = SaltIceCream.NONE, STATE = SaltIceCream.STATE,
        NO = SaltIceCream.NO;
    private static final int ICE = Given.ICE, SALT = Given.SALT, SHARE = Given.SHARE, STUFF = Given.STUFF;
    private static final int[] FAR = {Integer.MIN_VALUE, -99, 1000, Integer.MAX_VALUE};
    private static final String THIRTY_NINE_ZEROS = "000000000000000000000000000000000000000";

    private static void promise16Box() {
        CHECK.says("`int box()`: The PAD becomes the BOX (it is empty then): how many digits. NO: there is a FAULT.");
        SaltIceCream x = new SaltIceCream();
        CHECK.due("box() of no signs", x.box(), NO);
        Given.signs(x, "12a");
        CHECK.due("box() with a FAULT", x.box(), NO);
        CHECK.row("the PAD stays; there is no PLAN and no BOX", x::told, 0, 3, 0, 0, 0);
        Given.signs(x, "120");
        CHECK.due("box()", x.box(), 3);
        CHECK.row("the PAD is empty; there is a BOX", x::told, 0, 0, 0, 0, 3);
        CHECK.due("a sign behind it", x.say('9'), 1);
        CHECK.due("another BOX", x.box(), 1);
        CHECK.due("box() of nothing", x.box(), NO);
        CHECK.due("the BOX stays", x.told(3), 1);
        CHECK.due("stored() by it", x.stored(1), 0);
    }

    private static void swings() {
        CHECK.says("A BOX: DAYS by a row of digits on the PAD (1 to 40), its swings, over again from the first behind the last.");
        SaltIceCream x = Given.nineteen();
        Given.box(x, "5");
        CHECK.row("COARSE by 5", x::stored, 0, 0, 473, 736, 842, 894, 947, 947);
        Given.box(x, "05");
        CHECK.row("COARSE by 05", x::stored, 0, 0, 0, 473, 473, 736, 736, 842);
        Given.box(x, "500");
        CHECK.row("COARSE by 500", x::stored, 0, 0, 473, 473, 473, 736, 736, 736, 842);
        CHECK.due("40 digits", Given.signs(x, "5" + THIRTY_NINE_ZEROS).box(), 40);
        CHECK.row("COARSE by the first of 40", x::stored, 0, 0, 473, 473);
        CHECK.row("COARSE, from the first again", x::stored, 40, 473, 736, 736);
        CHECK.row("COARSE, for the third time", x::stored, 80, 736, 842, 842);
        CHECK.due("40 digits", Given.signs(x, THIRTY_NINE_ZEROS + "5").box(), 40);
        CHECK.row("COARSE by the last of 40", x::stored, 38, 0, 0, 473, 473);
        CHECK.row("COARSE by the last of 40", x::stored, 79, 473, 736, 736);
        Given.signs(x, THIRTY_NINE_ZEROS + "0");
        CHECK.due("a 41st digit", x.say('5'), SaltIceCream.FULL);
        x.box();
        CHECK.due("it is none of the BOX", x.stored(99), 0);
        Given.box(x, "5");
        CHECK.row("nothing of a longer BOX ahead stays", x::stored, 0, 0, 473, 736, 842);
    }

    private static void greatestFirst() {
        CHECK.says("On a DAY with a swing d the FLAKES behind THE PLAN grow: SIZE by SIZE from the greatest down,");
        // by SIZE: 19 of 29; 10 and 9 of 33; 5, 10 and 4 of 37. From the least up 9 of 33 would grow on at once
        SaltIceCream x = Given.box(Given.nineteen(), "5");
        CHECK.row("29", day -> x.grown(day, 29), 0, 19, 10, 5, 3, 2, 1, 1);
        CHECK.row("33", day -> x.grown(day, 33), 0, 0, 9, 10, 7);
        CHECK.row("37", day -> x.grown(day, 37), 0, 0, 0, 4, 7);
        CHECK.row("40", day -> x.grown(day, 40), 0, 0, 0, 0, 2);
        CHECK.due("what grows is not the PLAN's", x.flakes(1, 29), 19);
        CHECK.row("FLAKES of a part of THE PLAN do not count", day -> Given.plan(x, "a91-01").grown(day, 29), 0, 19, 10);
        Given.box(x, "0");
        CHECK.row("by a swing of 0", day -> x.grown(day, 29), 0, 19, 19, 19);
        Given.box(x, "9");
        CHECK.row("by a swing of 9", day -> x.grown(day, 29), 0, 19, 2, 1, 1);
    }

    private static void sizesGrow() {
        CHECK.says("of each SIZE n the grams times d by (10 and 5 times STUFF), cut, go to the SIZE n and 1 and 100 by n, "
            + "63 at most (they do not grow again that DAY).");
        SaltIceCream great = Given.water(600, "-06a11");
        great.set(STUFF, 0);
        Given.box(great, "9");
        CHECK.row("60", day -> great.grown(day, 60), 0, 4, 1, 1);
        CHECK.row("61", day -> great.grown(day, 61), 0, 0, 0, 0);
        CHECK.row("62", day -> great.grown(day, 62), 0, 0, 3, 1);
        CHECK.row("63", day -> great.grown(day, 63), 0, 0, 0, 2, 2, 2);
        SaltIceCream small = Given.pail(Given.water(600, "a19"), 1000, 12);
        small.set(STUFF, 0);
        Given.box(small, "9");
        CHECK.row("11", day -> small.grown(day, 11), 0, 9, 1, 1);
        CHECK.row("21", day -> small.grown(day, 21), 0, 0, 8, 1);
        CHECK.row("26", day -> small.grown(day, 26), 0, 0, 0, 7);
        Given.plan(small, "a91");
        small.set(SALT, 85);
        CHECK.row("20", day -> small.grown(day, 20), 0, 10, 1);
        CHECK.row("26", day -> small.grown(day, 26), 0, 0, 9);
        SaltIceCream x = Given.nineteen();
        int[][] dues = {{0, 2, 17}, {1, 8, 11}, {2, 11, 8}, {8, 16, 3}, {9, 16, 3}};
        Given.box(x, "9");
        for (int[] due : dues) {
            x.set(STUFF, due[0]);
            CHECK.due("29 by STUFF " + due[0], x.grown(1, 29), due[1]);
            CHECK.due("33 by STUFF " + due[0], x.grown(1, 33), due[2]);
        }
        Given.box(x, "2");
        CHECK.due("38 by 55", x.grown(99, 29), 19);
        Given.box(x, "3");
        CHECK.row("57 by 55", day -> x.grown(day, 29), 0, 19, 18, 18);
        swingsOfOneGram();
    }

    /** Grams that are too few are cut: none grow. */
    private static void swingsOfOneGram() {
        SaltIceCream x = Given.box(Given.waterByCold(7, "a11"), "9");
        x.set(STUFF, 0);
        CHECK.row("9 by 10", day -> x.grown(day, 11), 0, 1, 1, 1);
        x.set(SALT, 14);
        x.set(ICE, 886);
        CHECK.row("18 by 10", day -> x.grown(day, 12), 0, 2, 1, 1);
        CHECK.row("12 and 1 and 8", day -> x.grown(day, 21), 0, 0, 1, 1);
    }

    private static void promise17Stored() {
        CHECK.says("COARSE on a DAY.");
        SaltIceCream x = Given.nineteen();
        Given.box(x, "500");
        CHECK.row("COARSE, 9 and 14 of 19", x::stored, 0, 0, 473, 473, 473, 736);
        x.set(STUFF, 9);
        CHECK.row("COARSE by much STUFF: 95 / 55 grams", x::stored, 0, 0, 52, 52, 52, 105);
        Given.plan(x, "");
        CHECK.row("COARSE of nothing", x::stored, 0, 0, 0, 0);

        CHECK.says("`int stored(int days)`: COARSE behind so many DAYS (0 to 99). OUTSIDE; STATE: there is no BOX (not for 0).");
        SaltIceCream y = Given.nineteen();
        y.set(SALT, 175);
        CHECK.row("stored() without a BOX", y::stored, -1, OUTSIDE, 1000, STATE, STATE);
        CHECK.row("stored() without a BOX", y::stored, 98, STATE, STATE, OUTSIDE);
        Given.box(y, "5");
        y.set(SALT, 174);
        CHECK.row("stored()", y::stored, -1, OUTSIDE, 0, 473, 736, 842, 894, 947, 947);
        CHECK.row("stored()", y::stored, 98, 947, 947, OUTSIDE);
        for (int far : FAR) {
            CHECK.due("stored(" + far + ")", y.stored(far), OUTSIDE);
        }
        CHECK.due("stored(99) in turn", y.stored(99), 947);
        CHECK.due("DAYS do not last", y.stored(1), 473);
    }

    private static void promise18Grown() {
        CHECK.says("`int grown(int days, int size)`: FLAKES of a SIZE (10 to 63) behind so many DAYS. OUTSIDE; STATE, likewise.");
        SaltIceCream x = Given.nineteen();
        CHECK.row("grown(0) without a BOX", size -> x.grown(0, size), 28, 0, 19, 0);
        CHECK.row("grown(0) without a BOX", size -> x.grown(0, size), 9, OUTSIDE, 0);
        CHECK.row("grown(0) without a BOX", size -> x.grown(0, size), 62, 0, 0, OUTSIDE);
        CHECK.row("grown() of SIZE 29 without a BOX", day -> x.grown(day, 29), -1, OUTSIDE, 19, STATE);
        CHECK.row("grown() of SIZE 29 without a BOX", day -> x.grown(day, 29), 98, STATE, STATE, OUTSIDE);
        CHECK.row("grown(1) without a BOX: OUTSIDE comes first", size -> x.grown(1, size), 9, OUTSIDE, STATE);
        CHECK.row("grown(1) without a BOX: OUTSIDE comes first", size -> x.grown(1, size), 63, STATE, OUTSIDE);
        Given.box(x, "5");
        CHECK.row("grown() of SIZE 29", day -> x.grown(day, 29), -1, OUTSIDE, 19, 10);
        CHECK.row("grown() of SIZE 29 at the last", day -> x.grown(day, 29), 98, 1, 1, OUTSIDE);
        CHECK.row("grown(1) edges", size -> x.grown(1, size), 9, OUTSIDE, 0);
        CHECK.row("grown(1) edges", size -> x.grown(1, size), 63, 0, OUTSIDE);
        for (int far : FAR) {
            CHECK.due("grown(" + far + ", 29)", x.grown(far, 29), OUTSIDE);
            CHECK.due("grown(1, " + far + ")", x.grown(1, far), OUTSIDE);
        }
        CHECK.due("grown() of no PLAN", Given.plan(x, "").grown(99, 63), 0);
    }

    private static void sandByShare(SaltIceCream x, int share, int due) {
        x.set(SHARE, share);
        CHECK.due("sand() by SHARE " + share, x.sand(), due);
    }

    private static void promise19Sand() {
        CHECK.says("SAND: the first DAY (1 to 99) behind which COARSE is SHARE or more.");
        SaltIceCream x = Given.box(Given.nineteen(), "5");
        int[][] dues = {{1, 1}, {473, 1}, {474, 2}, {736, 2}, {737, 3}, {842, 3}, {843, 4}, {894, 4}, {895, 5}, {900, 5}};
        for (int[] due : dues) {
            sandByShare(x, due[0], due[1]);
        }
        // one swing in 40 DAYS: 9 of 19 grams on DAY 40, 5 more on DAY 80, no more up to 99
        SaltIceCream slow = Given.box(Given.nineteen(), THIRTY_NINE_ZEROS + "5");
        sandByShare(slow, 473, 40);
        sandByShare(slow, 736, 80);
        sandByShare(slow, 737, NONE);
        Given.box(slow, THIRTY_NINE_ZEROS.substring(0, 32) + "5");
        sandByShare(slow, 842, 99);
        sandByShare(slow, 843, NONE);
        Given.box(slow, THIRTY_NINE_ZEROS.substring(0, 33) + "5");
        sandByShare(slow, 736, 68);
        sandByShare(slow, 737, NONE);

        CHECK.says("`int sand()`: SAND; NONE. STATE: there is no BOX.");
        SaltIceCream y = Given.nineteen();
        CHECK.due("sand() without a BOX", y.sand(), STATE);
        Given.box(y, "0");
        CHECK.due("sand() in a still BOX", y.sand(), NONE);
        y.set(SALT, 175);
        CHECK.due("sand() of what was COARSE ahead of all DAYS", y.sand(), 1);
        Given.plan(y, "");
        CHECK.due("sand() of nothing", y.sand(), NONE);
        CHECK.due("sand() of nothing without a BOX", new SaltIceCream().sand(), STATE);
    }

    static Check all() {
        promise16Box();
        swings();
        greatestFirst();
        sizesGrow();
        promise17Stored();
        promise18Grown();
        promise19Sand();
        return CHECK;
    }

    public static void main(String[] args) {
        all().end();
    }
}
