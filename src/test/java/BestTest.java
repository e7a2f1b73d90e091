/** Promises 12 (order), 13 (bestSalt), 14 (bestPace), 15 (leaveOff). */
public final class BestTest {
    private static final Check CHECK = new Check("BestTest");
    private static final int OUTSIDE = SaltIceCream.OUTSIDE, NONE = SaltIceCream.NONE, UNKNOWN = SaltIceCream.UNKNOWN;

    private static void strengths(SaltIceCream x, int... v) {
        for (int child = 0; child < v.length; child++) {
            x.strong(child, v[child]);
        }
    }

    /** Answers for the places -3 to 4. */
    private static void order(String what, SaltIceCream x, long frozen, long held, long... who) {
        CHECK.row(what, x::order, -3, UNKNOWN, frozen, held, who[0], who[1], who[2], who[3], UNKNOWN);
    }

    private static void promise12Order() {
        order("no PLAN", new SaltIceCream(), 0, 0, 0, 1, 2, 3);
        SaltIceCream x = Check.withPlan("a91b51c11");
        x.set(0, 0);
        strengths(x, 10, 20, 40, 36);
        order("fewest HELD", x, 0, 0, 2, 1, 0, 3);
        strengths(x, 10, 20, 35, 36);
        order("a must be 3", x, 0, 0, 3, 1, 0, 2);
        Check.replan(x, "a91b71c51d31");
        strengths(x, 12, 20, 28, 36);
        order("the last way", x, 0, 0, 3, 2, 1, 0);
        Check.replan(x, "a91b51c11");
        strengths(x, 0, 0, 0, 0);
        order("nobody can", x, 0, 3, 0, 1, 2, 3);
        CHECK.due("order(lowest int)", x.order(Integer.MIN_VALUE), UNKNOWN);
        SaltIceCream y = RunTest.water(600, "a51b91");
        strengths(y, 36, 0, 0, 0);
        order("most FROZEN of equally HELD", y, 36, 1, 1, 0, 2, 3);
        Check.replan(y, "a91b51");
        order("the other way round", y, 31, 1, 0, 1, 2, 3);
        Check.replan(y, "d91");
        order("the first of equals", y, 31, 0, 1, 2, 3, 0);
        strengths(y, 36, 36, 36, 36);
        order("all alike", y, 31, 0, 0, 1, 2, 3);
        CHECK.due("held(0) is as told", Check.replan(y, "-91s1").held(0), 0);
        order("nobody's PLAN", y, 0, 0, 0, 1, 2, 3);
    }

    private static void bestSalt(SaltIceCream x, int share, int salt, int coarse) {
        x.set(6, share);
        CHECK.due("bestSalt(0) by SHARE " + share, x.bestSalt(0), salt);
        CHECK.due("bestSalt(1) by SHARE " + share, x.bestSalt(1), coarse);
        CHECK.due("bestSalt(2)", x.bestSalt(2), OUTSIDE);
        CHECK.due("bestSalt(-1)", x.bestSalt(-1), OUTSIDE);
    }

    private static void promise13BestSalt() {
        SaltIceCream x = RunTest.water(600, "a91");
        bestSalt(x, 13, 200, 0);
        bestSalt(x, 14, 300, 0);
        bestSalt(x, 32, 600, 1000);
        bestSalt(x, 51, 900, 1000);
        bestSalt(x, 52, NONE, NONE);
        CHECK.due("SALT stays", x.told(11), 1000);
        Check.replan(x, "s1a91");
        bestSalt(x, 13, 100, 0);
        x.set(2, 800);
        bestSalt(x, 10, 100, 0);
        bestSalt(x, 11, 200, 0);
        Check.replan(x, "");
        bestSalt(x, 1, NONE, NONE);
    }

    private static void bestPace(SaltIceCream x, int share, int pace, int coarse) {
        x.set(6, share);
        CHECK.due("bestPace(0) by SHARE " + share, x.bestPace(0), pace);
        CHECK.due("bestPace(1) by SHARE " + share, x.bestPace(1), coarse);
        CHECK.due("bestPace(2)", x.bestPace(2), OUTSIDE);
        CHECK.due("bestPace(-1)", x.bestPace(-1), OUTSIDE);
    }

    private static void promise14BestPace() {
        SaltIceCream x = RunTest.water(600, "a01");
        bestPace(x, 1, 1, 1000);
        bestPace(x, 50, 8, 1000);
        bestPace(x, 51, 8, 1000);
        bestPace(x, 52, NONE, NONE);
        CHECK.due("THE PLAN keeps its PACE", x.after(1, 5), 0);
        Check.replan(x, "-09a01");
        bestPace(x, 60, 9, 1000);
        bestPace(x, 61, NONE, NONE);
        x.set(2, 1000);
        bestPace(x, 36, 9, 1000);
        x.set(2, 1001);
        bestPace(x, 36, NONE, NONE);
        x.set(2, 600);
        Check.replan(x, "a01");
        x.strong(0, 31);
        bestPace(x, 46, 7, 1000);
        bestPace(x, 47, NONE, NONE);
        Check.replan(x, "-91");
        bestPace(x, 1, NONE, NONE);
        x.strong(0, 90);
        x.set(1, 500);
        Check.replan(x, "a91b32");
        // 19 grams freeze in a MINUTE on a bare wall: PACE 1 and 2 leave so many that later FLAKES are of SIZE 30
        bestPace(x, 1, 3, 0);
        bestPace(x, 60, 3, 0);
        bestPace(x, 61, 4, 0);
        bestPace(x, 80, 4, 0);
        bestPace(x, 81, 5, 0);
        bestPace(x, 95, 5, 0);
        bestPace(x, 96, NONE, NONE);
    }

    private static void promise15LeaveOff() {
        SaltIceCream x = RunTest.water(100, "a99a99");
        x.strong(0, 200);
        int[][] dues = {{0, 0}, {31, 0}, {32, 1}, {62, 1}, {63, 2}, {94, 2}, {95, 3}, {100, 3}, {101, 4}, {104, 9},
            {105, NONE}, {120, NONE}, {121, OUTSIDE}, {-1, OUTSIDE}};
        for (int[] due : dues) {
            CHECK.due("leaveOff(" + due[0] + ")", x.leaveOff(due[0]), due[1]);
        }
        CHECK.due("leaveOff(0) of no PLAN", new SaltIceCream().leaveOff(0), NONE);
        CHECK.due("leaveOff(0) of SALT alone", Check.withPlan("s1").leaveOff(0), NONE);
        // 4 grams in each of the last 9 of 117 MINUTES: a tenth of 360 behind the very last
        SaltIceCream late = RunTest.water(360, "-99-99-99-99-99-99-99-99-99-99-99-99a19");
        CHECK.row("leaveOff() late", late::leaveOff, 8, 115, 116, 116, NONE);
        Check.replan(x, "-01");
        CHECK.due("nothing of a longer run ahead stays", x.leaveOff(1), NONE);
    }

    public static void main(String[] args) {
        promise12Order();
        promise13BestSalt();
        promise14BestPace();
        promise15LeaveOff();
        CHECK.end();
    }
}
