/** Promises 8 (after), 9 (flakes), 10 (tired), 11 (held), by numbers reckoned by hand. */
public final class RunTest {
    private static final Check CHECK = new Check("RunTest");
    private static final int OUTSIDE = SaltIceCream.OUTSIDE, UNKNOWN = SaltIceCream.UNKNOWN;
    private static final int ICE = 0, SALT = 1, WATER = 2, SUGAR = 3, FAT = 4, WARM = 5;

    /** Water alone, at 0 degrees: it freezes at once, and is always at 0. */
    static SaltIceCream water(int grams, String plan) {
        SaltIceCream x = Check.withPlan(plan);
        x.set(WATER, grams);
        x.set(SUGAR, 0);
        x.set(WARM, 0);
        return x;
    }

    static void allStrong(SaltIceCream x, int v) {
        for (int child = 0; child < 4; child++) {
            x.strong(child, v);
        }
    }

    private static void rows(SaltIceCream x, int minutes, long... wants) {
        CHECK.row("after(" + minutes + ")", what -> x.after(minutes, what), 0, wants);
    }

    private static void coolsAboveTheLine() {
        SaltIceCream x = Check.withPlan("-03");
        rows(x, 0, 3000, 1000, 0, 210, 1100, 0, 0, 0, 0, 0, 0, 13);
        rows(x, 1, 2951, 1000, 49, 210, 1058, 0, 0, 0, 0, 0, 0, 13);
        rows(x, 2, 2908, 1000, 92, 210, 1022, 0, 0, 0, 0, 0, 0, 13);
        x.set(FAT, 400);
        CHECK.due("fat cream cools slower: 100 - 37200 / 1150", x.after(1, 4), 1068);
        x.set(WARM, 0);
        CHECK.due("but not below its LINE", x.after(1, 4), 987);
        CHECK.due("and does not freeze in that MINUTE", x.after(1, 6), 0);
    }

    private static void pailWithoutIce() {
        SaltIceCream x = Check.withPlan("-09-09-09-09-09-09");
        x.set(ICE, 10);
        x.set(WARM, 0);
        CHECK.row("COLD", m -> x.after(m, 3), 0, 210, 210, 205, 200, 195);
        CHECK.due("COLD when all of it is gone", x.after(43, 3), 0);
        CHECK.due("COLD is 0 at least", x.after(54, 3), 0);
        CHECK.row("ICE", m -> x.after(m, 0), 0, 10, 0, 0);
        CHECK.row("BRINE", m -> x.after(m, 2), 0, 0, 10, 10);
        x.set(ICE, 1);
        CHECK.row("COLD by a gram of ICE", m -> x.after(m, 3), 0, 210, 210, 205);
        x.set(ICE, 9000);
        x.set(SALT, 999);
        CHECK.row("COLD, 899100 by 9999", m -> x.after(m, 3), 0, 89, 89);
        x.set(ICE, 0);
        CHECK.row("COLD, if there never was ICE", m -> x.after(m, 3), 0, 0, 0, 0);
        x.set(ICE, 1);
        x.set(SALT, 0);
        CHECK.row("COLD without SALT", m -> x.after(m, 3), 0, 0, 0, 0);
        x.set(ICE, 3000);
        CHECK.row("3 grams melt besides", m -> x.after(m, 0), 0, 3000, 2997, 2994);
    }

    private static void saltFromThePlan() {
        SaltIceCream x = Check.withPlan("s5-01s2-01s1s3");
        x.set(SALT, 100);
        CHECK.row("SALT", m -> x.after(m, 1), 0, 100, 600, 1200);
        CHECK.row("COLD", m -> x.after(m, 3), 0, 29, 150, 189);
        CHECK.due("after(3, 1)", x.after(3, 1), OUTSIDE);
        Check.replan(x, "s9s9");
        CHECK.due("SALT behind all of no MINUTES", x.after(0, 1), 1900);
        CHECK.due("COLD AFTER none by SALT of 1", x.after(0, 3), 29);
        Check.replan(x, "s1s1s1s1s1s1s1s1s1s1s1s1s1s1s1s1s1s1s1s9");
        CHECK.due("SALT of 20 PARTS", x.after(0, 1), 2900);
        Check.replan(x, "-01s4");
        CHECK.row("SALT behind the last MINUTE", m -> x.after(m, 1), 0, 100, 500);
        CHECK.due("COLD as that MINUTE had it", x.after(1, 3), 29);
        CHECK.due("SALT of 1 stays", x.told(11), 100);
    }

    private static void theLastGramOfWater() {
        SaltIceCream x = Check.withPlan("a96");
        x.set(WATER, 100);
        x.set(SUGAR, 15);
        x.set(FAT, 0);
        x.set(WARM, 0);
        x.strong(0, 200);
        rows(x, 1, 2966, 1000, 34, 210, 992, 0, 0, 0, 0, 0, 0, 8);
        rows(x, 2, 2933, 1000, 67, 210, 989, 30, 0, 0, 30, 0, 1000, 11);
        rows(x, 3, 2901, 1000, 99, 210, 981, 59, 0, 0, 59, 0, 1000, 19);
        rows(x, 4, 2870, 1000, 130, 210, 938, 87, 0, 0, 87, 1, 1000, 62);
        rows(x, 5, 2845, 1000, 155, 210, 190, 99, 0, 0, 99, 2, 878, 810);
        rows(x, 6, 2842, 1000, 158, 210, 190, 99, 0, 0, 99, 3, 878, 810);
        CHECK.due("flakes(6, 40)", x.flakes(6, 40), 30);
        CHECK.due("flakes(6, 22)", x.flakes(6, 22), 12);
        CHECK.due("held(0)", x.held(0), 0);
    }

    private static void airAndButter() {
        SaltIceCream x = water(100, "a99a99");
        x.strong(0, 200);
        CHECK.row("AIR", m -> x.after(m, 7), 0, 0, 0, 3, 6, 9, 12, 15, 18, 21, 24, 27, 27, 27);
        CHECK.row("CHURNED", m -> x.after(m, 9), 0, 0, 0, 0, 1, 2, 3, 4, 5, 6, 7, 8, 9, 10);
        CHECK.row("STIFF", m -> x.after(m, 8), 0, 0, 31, 62, 94, 100, 101, 102, 102, 103, 103, 104, 104);
        x.set(FAT, 50);
        CHECK.due("AIR by FAT 50", x.after(4, 7), 9);
        x.set(FAT, 49);
        CHECK.due("AIR by FAT 49", x.after(4, 7), 0);
        CHECK.due("CHURNED by FAT 49", x.after(4, 9), 2);
        x.set(FAT, 120);
        x.set(WATER, 310);
        CHECK.due("AIR, STIFF was 10", x.after(2, 7), 3);
        x.set(WATER, 311);
        CHECK.due("AIR, STIFF was 9", x.after(2, 7), 0);
        x.set(WATER, 100);
        Check.replan(x, "a92a21a31a51a61");
        CHECK.row("AIR by PACE by 3", m -> x.after(m, 7), 2, 3, 3, 4, 5, 7);
        CHECK.row("CHURNED by PACE 6 or more", m -> x.after(m, 9), 2, 0, 0, 0, 0, 1);
        Check.replan(x, "a93");
        x.set(WATER, 124);
        CHECK.due("CHURNED, STIFF was 50", x.after(3, 9), 1);
        x.set(WATER, 125);
        CHECK.due("CHURNED, STIFF was 49", x.after(3, 9), 0);
        SaltIceCream y = water(2000, "a99a99b99b99c99c99");
        y.set(ICE, 34);
        y.set(SUGAR, 600);
        allStrong(y, 200);
        CHECK.due("AIR is 100 at most", y.after(54, 7), 100);
        CHECK.due("it is no butter", y.after(54, 9), 0);
    }

    private static void promise8After() {
        coolsAboveTheLine();
        pailWithoutIce();
        saltFromThePlan();
        theLastGramOfWater();
        airAndButter();
        SaltIceCream x = water(600, "-06");
        CHECK.row("LAYER, the slower the more of it", m -> x.after(m, 6), 0, 0, 31, 38, 44, 49, 54, 58);
        CHECK.due("after(-1, 0)", x.after(-1, 0), OUTSIDE);
        CHECK.due("after(7, 0)", x.after(7, 0), OUTSIDE);
        CHECK.due("after(0, -1)", x.after(0, -1), OUTSIDE);
        CHECK.due("after(0, 12)", x.after(0, 12), OUTSIDE);
        SaltIceCream y = water(600, "a91");
        y.set(ICE, 1000);
        y.set(SALT, 174);
        CHECK.due("COARSE of SIZE 29", y.after(1, 10), 0);
        y.set(SALT, 175);
        CHECK.due("COARSE of SIZE 30", y.after(1, 10), 1000);
        SaltIceCream z = water(600, "-99");
        CHECK.due("nobody scrapes", z.after(9, 5), 0);
    }

    private static void promise9Flakes() {
        SaltIceCream x = water(600, "a91");
        x.set(ICE, 1000);
        x.set(SALT, 174);
        CHECK.due("flakes(1, 29)", x.flakes(1, 29), 19);
        CHECK.due("flakes(1, 30)", x.flakes(1, 30), 0);
        CHECK.due("flakes(0, 29)", x.flakes(0, 29), 0);
        x.set(SALT, 175);
        CHECK.due("flakes(1, 30) by 175", x.flakes(1, 30), 20);
        CHECK.row("flakes(1) at the edges", size -> x.flakes(1, size), 9, OUTSIDE, 0);
        CHECK.row("flakes(1) at the edges", size -> x.flakes(1, size), 60, 0, OUTSIDE);
        CHECK.due("flakes(2, 30)", x.flakes(2, 30), OUTSIDE);
        CHECK.due("flakes(-1, 30)", x.flakes(-1, 30), OUTSIDE);
        SaltIceCream y = water(600, "-03a11");
        CHECK.due("SIZE 10 and LAYER", y.flakes(4, 59), 4);
        CHECK.due("the rest stays on the wall", y.after(4, 6), 45);
        Check.replan(y, "-06a11");
        CHECK.due("SIZE 60 at most", y.flakes(7, 60), 4);
    }

    private static void promise10Tired() {
        SaltIceCream x = Check.withPlan("a52a11b71-01a01c11");
        x.set(ICE, 0);
        CHECK.row("tired(0)", m -> x.tired(0, m), 0, 0, 2, 4, 4, 3, 2, 1, 0);
        CHECK.row("tired(1)", m -> x.tired(1, m), 0, 0, 0, 0, 0, 3, 2, 1, 0);
        CHECK.row("tired(2)", m -> x.tired(2, m), 0, 0, 0, 0, 0, 0, 0, 0, 0);
        Check.replan(x, "d91c71b51a31");
        CHECK.row("tired(3)", m -> x.tired(3, m), 0, 0, 4, 3, 2, 1);
        CHECK.row("tired(2)", m -> x.tired(2, m), 0, 0, 0, 3, 2, 1);
        CHECK.row("tired(1)", m -> x.tired(1, m), 0, 0, 0, 0, 2, 1);
        CHECK.row("tired(0)", m -> x.tired(0, m), 0, 0, 0, 0, 0, 1);
        CHECK.due("tired(-1, 0)", x.tired(-1, 0), UNKNOWN);
        CHECK.due("tired(4, 99)", x.tired(4, 99), UNKNOWN);
        CHECK.due("tired(3, 8)", x.tired(3, 8), OUTSIDE);
        CHECK.due("tired(3, -1)", x.tired(3, -1), OUTSIDE);
        x.strong(0, 20);
        Check.replan(x, "a59");
        CHECK.row("TIRED when he can not", m -> x.tired(0, m), 0, 0, 2, 1, 0, 2, 1, 0, 2, 1, 0);
    }

    private static void promise11Held() {
        SaltIceCream x = Check.withPlan("a59");
        x.set(ICE, 0);
        x.strong(0, 20);
        CHECK.due("held(0)", x.held(0), 6);
        CHECK.due("held(1)", x.held(1), 1);
        x.strong(0, 19);
        CHECK.due("held(0) of the weak", x.held(0), 9);
        CHECK.due("held(1) of the weak", x.held(1), 0);
        Check.replan(x, "a09-99");
        CHECK.due("PACE 0 and nobody are not HELD", x.held(0), 0);
        CHECK.due("held(1) of none", x.held(1), SaltIceCream.NONE);
        CHECK.due("held(2)", x.held(2), OUTSIDE);
        CHECK.due("held(-1)", x.held(-1), OUTSIDE);
        Check.replan(x, "d91c71b51a31");
        for (int child = 0; child < 4; child++) {
            allStrong(x, 200);
            x.strong(child, 0);
            CHECK.due("held(0), without " + child, x.held(0), 1);
            CHECK.due("held(1), without " + child, x.held(1), 3 - child);
        }
        SaltIceCream y = water(100, "a92");
        y.strong(0, 70);
        CHECK.due("31 and 36 are below 70 less 4? no", y.held(1), 1);
        y.strong(0, 71);
        CHECK.due("31 and 36 are 71 less 4", y.held(0), 0);
    }

    public static void main(String[] args) {
        promise8After();
        promise9Flakes();
        promise10Tired();
        promise11Held();
        CHECK.end();
    }
}
