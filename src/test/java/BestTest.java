/** Promises 12 (order), 13 (bestSalt), 14 (bestPace), 15 (leaveOff). */
public final class BestTest {
    private static final Check CHECK = new Check("BestTest");
    private static final int OUTSIDE = SaltIceCream.OUTSIDE, NONE = SaltIceCream.NONE, UNKNOWN = SaltIceCream.UNKNOWN;
    private static final int ICE = Given.ICE, SALT = Given.SALT, WATER = Given.WATER, SHARE = Given.SHARE;

    /** Answers for the places -3 to 4. */
    private static void order(String what, SaltIceCream x, long frozen, long held, long... who) {
        CHECK.row(what, x::order, -3, UNKNOWN, frozen, held, who[0], who[1], who[2], who[3], UNKNOWN);
    }

    private static void bestOrder() {
        CHECK.says("ORDER: all ways to put the four CHILDREN in the places of a, b, c, d in THE PLAN: that with the fewest HELD "
            + "MINUTES, then the most FROZEN behind it, then the first by who comes in the place of a, b, ....");
        SaltIceCream x = Given.plan("a91b51c11");
        x.set(ICE, 0);
        order("fewest HELD", Given.strong(x, 10, 20, 40, 36), 0, 0, 2, 1, 0, 3);
        order("a must be 3", Given.strong(x, 10, 20, 35, 36), 0, 0, 3, 1, 0, 2);
        order("nobody can", Given.strong(x, 0, 0, 0, 0), 0, 3, 0, 1, 2, 3);
        Given.plan(x, "a91b71c51d31");
        order("the last way", Given.strong(x, 12, 20, 28, 36), 0, 0, 3, 2, 1, 0);
        SaltIceCream y = Given.water(600, "a51b91");
        order("most FROZEN of equally HELD", Given.strong(y, 36, 0, 0, 0), 36, 1, 1, 0, 2, 3);
        order("the other way round", Given.plan(y, "a91b51"), 31, 1, 0, 1, 2, 3);
        // in the place of a 31 grams, and 4 MINUTES HELD; in that of b or c 8 grams, and 3 MINUTES HELD
        order("fewer HELD are more than FROZEN", Given.plan(y, "a91b12c12"), 8, 3, 1, 0, 2, 3);
        order("in a later way too", Given.strong(y, 0, 0, 0, 36), 8, 3, 0, 1, 3, 2);
        Given.strong(y, 36, 0, 0, 0);
        order("the first of equals", Given.plan(y, "d91"), 31, 0, 1, 2, 3, 0);
        order("all alike", Given.strong(y, 36, 36, 36, 36), 31, 0, 0, 1, 2, 3);
        order("nobody's PLAN", Given.plan(y, "-91s1"), 0, 0, 0, 1, 2, 3);
    }

    /** Each of the four has one place: nobody comes twice in the stead of a weak one. */
    private static void eachChildOnce() {
        SaltIceCream x = Given.plan("a91b91c91d91");
        x.set(ICE, 0);
        order("without 0", Given.strong(x, 0, 200, 200, 200), 0, 1, 0, 1, 2, 3);
        order("without 1", Given.strong(x, 200, 0, 200, 200), 0, 1, 0, 1, 2, 3);
        order("without 2", Given.strong(x, 200, 200, 0, 200), 0, 1, 0, 1, 2, 3);
        order("without 3", Given.strong(x, 200, 200, 200, 0), 0, 1, 0, 1, 2, 3);
    }

    private static void promise12Order() {
        CHECK.says("`int order(int place)`: ORDER: who comes in the place of a to d (place 0 to 3), HELD (-1), FROZEN (-2). UNKNOWN.");
        SaltIceCream x = new SaltIceCream();
        order("no PLAN", x, 0, 0, 0, 1, 2, 3);
        order("SALT alone", Given.plan(x, "s9"), 0, 0, 0, 1, 2, 3);
        CHECK.due("order(lowest int)", x.order(Integer.MIN_VALUE), UNKNOWN);
        CHECK.due("order(greatest int)", x.order(Integer.MAX_VALUE), UNKNOWN);
        SaltIceCream y = Given.strong(Given.water(600, "a91"), 0, 0, 0, 36);
        order("3 in the place of a", y, 31, 0, 3, 0, 1, 2);
        CHECK.due("THE PLAN is as it was", y.held(0), 1);
        CHECK.due("STRONG is as it was", y.told(23), 36);
        Given.plan(Given.strong(y, 0, 0, 0, 0), "a99b99c99d99a99b99c99d99a99b99c99d99a99");
        order("each of 117 MINUTES is HELD", y, 0, 117, 0, 1, 2, 3);
    }

    private static void bestSalt(SaltIceCream x, int share, int salt, int coarse) {
        x.set(SHARE, share);
        CHECK.row("bestSalt() by SHARE " + share, x::bestSalt, -1, OUTSIDE, salt, coarse, OUTSIDE);
    }

    private static void leastCoarseSalt() {
        CHECK.says("BEST SALT: SALT at first, 0 to 3000 by hundreds, by which COARSE is least behind THE PLAN, "
            + "of those with FROZEN of SHARE thousandths of WATER or more;");
        SaltIceCream x = Given.water(600, "a91");
        // 100, 200, .. grams of SALT freeze 4, 8, 12, 15, 19, 22, 25, 28, 31 grams; SIZE is 10 more
        bestSalt(x, 13, 200, 0);
        bestSalt(x, 14, 300, 0);
        bestSalt(x, 32, 600, 1000);
        bestSalt(x, 51, 900, 1000);
        x.set(SALT, 50);
        bestSalt(x, 14, 300, 0);
        CHECK.due("SALT stays", x.told(11), 50);
        x.set(WATER, 800);
        bestSalt(x, 10, 200, 0);
        bestSalt(x, 11, 300, 0);
        x.set(WATER, 801);
        bestSalt(x, 10, 300, 0);
        Given.plan(x, "s1a91");
        x.set(WATER, 600);
        bestSalt(x, 13, 100, 0);
        bestSalt(Given.water(600, "s9a91"), 51, 0, 1000);
        // 100 grams freeze 12 grams of SIZE 22 besides; 0 none, 200 those of SIZE 32
        SaltIceCream y = Given.pail(Given.water(600, "a91s9a91"), 1000, 3000);
        bestSalt(y, 1, 100, 720);
        bestSalt(y, 71, 100, 720);
        bestSalt(y, 72, 200, 1000);
        // LINE is 3: 2700 grams freeze 2448 / 80, 2800 2484 / 80, as those above: COLD is 210 at most
        SaltIceCream z = Given.pail(Given.water(600, "-01a91"), 9000, 0);
        z.set(Given.SUGAR, 34);
        bestSalt(z, 51, 2800, 1000);
        bestSalt(z, 52, NONE, NONE);
    }

    private static void promise13BestSalt() {
        CHECK.says("of several the least SALT; NONE, if none has so much.");
        SaltIceCream x = Given.water(600, "a91");
        bestSalt(x, 1, 100, 0);
        bestSalt(x, 51, 900, 1000);
        bestSalt(x, 52, NONE, NONE);
        bestSalt(x, 900, NONE, NONE);

        CHECK.says("`int bestSalt(int what)`: BEST SALT (what = 0), COARSE by it (1); NONE. OUTSIDE.");
        Given.plan(x, "");
        bestSalt(x, 1, NONE, NONE);
        Given.plan(x, "-99");
        bestSalt(x, 1, NONE, NONE);
        CHECK.due("bestSalt(lowest int)", x.bestSalt(Integer.MIN_VALUE), OUTSIDE);
        CHECK.due("bestSalt(greatest int)", x.bestSalt(Integer.MAX_VALUE), OUTSIDE);
        x.set(ICE, 0);
        Given.plan(x, "a99");
        bestSalt(x, 1, NONE, NONE);
    }

    private static void bestPace(SaltIceCream x, int share, int pace, int coarse) {
        x.set(SHARE, share);
        CHECK.row("bestPace() by SHARE " + share, x::bestPace, -1, OUTSIDE, pace, coarse, OUTSIDE);
    }

    private static void leastCoarsePace() {
        CHECK.says("BEST PACE: all PARTS with a CHILD by one PACE (1 to 9), likewise, the least PACE.");
        SaltIceCream x = Given.water(600, "a01");
        bestPace(x, 1, 1, 1000);
        bestPace(x, 50, 8, 1000);
        bestPace(x, 51, 8, 1000);
        bestPace(x, 52, NONE, NONE);
        CHECK.due("THE PLAN keeps its PACE", x.after(1, 5), 0);
        Given.plan(x, "-09a01");
        bestPace(x, 60, 9, 1000);
        bestPace(x, 61, NONE, NONE);
        x.set(WATER, 1000);
        bestPace(x, 36, 9, 1000);
        x.set(WATER, 1001);
        bestPace(x, 36, NONE, NONE);
        x.set(WATER, 600);
        Given.plan(x, "a01");
        x.strong(0, 31);
        bestPace(x, 46, 7, 1000);
        bestPace(x, 47, NONE, NONE);
        x.strong(0, 90);
        x.set(SALT, 500);
        Given.plan(x, "a91b32");
        // 19 grams freeze in a MINUTE on a bare wall: PACE 1 and 2 leave so many that later FLAKES are of SIZE 30
        bestPace(x, 1, 3, 0);
        bestPace(x, 60, 3, 0);
        bestPace(x, 61, 4, 0);
        bestPace(x, 80, 4, 0);
        bestPace(x, 81, 5, 0);
        bestPace(x, 95, 5, 0);
        bestPace(x, 96, NONE, NONE);
    }

    private static void promise14BestPace() {
        CHECK.says("`int bestPace(int what)`: BEST PACE, likewise. OUTSIDE.");
        SaltIceCream x = Given.water(600, "-91");
        bestPace(x, 1, NONE, NONE);
        Given.plan(x, "s9");
        bestPace(x, 1, NONE, NONE);
        Given.plan(x, "");
        bestPace(x, 1, NONE, NONE);
        CHECK.due("bestPace(lowest int)", x.bestPace(Integer.MIN_VALUE), OUTSIDE);
        CHECK.due("bestPace(greatest int)", x.bestPace(Integer.MAX_VALUE), OUTSIDE);
        Given.plan(Given.strong(x, 0, 0, 0, 0), "a99b99c99d99");
        bestPace(x, 1, NONE, NONE);
        bestPace(Given.strong(x, 0, 0, 0, 4), 1, 1, 1000);
    }

    private static void leaveOff() {
        CHECK.says("LEAVE OFF: the first MINUTE (from 0 on) behind which STIFF is a number or more.");
        SaltIceCream x = Given.water(100, "a99a99");
        x.strong(0, 200);
        int[][] dues = {{0, 0}, {1, 0}, {31, 0}, {32, 1}, {62, 1}, {63, 2}, {94, 2}, {95, 3}, {100, 3}, {101, 4}, {104, 9},
            {105, NONE}, {120, NONE}};
        for (int[] due : dues) {
            CHECK.due("leaveOff(" + due[0] + ")", x.leaveOff(due[0]), due[1]);
        }
        // 4 grams in each of the last 9 of 117 MINUTES: a tenth of 360 behind the very last
        SaltIceCream late = Given.water(360, "-99-99-99-99-99-99-99-99-99-99-99-99a19");
        CHECK.row("leaveOff() late", late::leaveOff, 8, 115, 116, 116, NONE);
        Given.plan(x, "-01");
        CHECK.due("nothing of a longer run ahead stays", x.leaveOff(1), NONE);
    }

    private static void promise15LeaveOff() {
        CHECK.says("`int leaveOff(int stiff)`: LEAVE OFF; NONE. OUTSIDE: 0 to 120.");
        SaltIceCream x = Given.plan("-01");
        CHECK.row("leaveOff()", x::leaveOff, -1, OUTSIDE, 0, NONE);
        CHECK.row("leaveOff()", x::leaveOff, 119, NONE, NONE, OUTSIDE, OUTSIDE);
        CHECK.due("leaveOff(lowest int)", x.leaveOff(Integer.MIN_VALUE), OUTSIDE);
        CHECK.due("leaveOff(greatest int)", x.leaveOff(Integer.MAX_VALUE), OUTSIDE);
        CHECK.due("leaveOff(0) of no PLAN", new SaltIceCream().leaveOff(0), NONE);
        CHECK.due("leaveOff(0) of SALT alone", Given.plan("s1").leaveOff(0), NONE);
    }

    static Check all() {
        bestOrder();
        eachChildOnce();
        promise12Order();
        leastCoarseSalt();
        promise13BestSalt();
        leastCoarsePace();
        promise14BestPace();
        leaveOff();
        promise15LeaveOff();
        return CHECK;
    }

    public static void main(String[] args) {
        all().end();
    }
}
