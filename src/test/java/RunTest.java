/** Promise 8 (after), and what 'Terms' say of a RUN and its MINUTES, by numbers reckoned by hand. */
public final class RunTest {
    private static final Check CHECK = new Check("RunTest");
    private static final int OUTSIDE = SaltIceCream.OUTSIDE;
    private static final int ICE = Given.ICE, SALT = Given.SALT, WATER = Given.WATER, SUGAR = Given.SUGAR, FAT = Given.FAT,
        WARM = Given.WARM;

    private static void rows(SaltIceCream x, int minutes, long... wants) {
        CHECK.row("after(" + minutes + ")", what -> x.after(minutes, what), 0, wants);
    }

    private static void runBegins() {
        CHECK.says("A RUN begins with these; BRINE 0, LAYER 0 (grams of ice on the wall), AIR 0, CHURNED 0, all TIRED 0, "
            + "FLAKES of no SIZE.");
        SaltIceCream x = Given.water(100, "a99b99");
        Given.strong(x, 200, 200, 200, 200);
        rows(x, 0, 3000, 1000, 0, 210, 1000, 0, 0, 0, 0, 0, 0, 0);
        CHECK.holds("a long RUN has much of all", x.after(18, 2) > 0 && x.after(18, 7) > 0 && x.after(18, 9) > 0
            && x.tired(0, 18) > 0 && x.tired(1, 18) > 0 && x.after(18, 5) > 0);
        rows(x, 0, 3000, 1000, 0, 210, 1000, 0, 0, 0, 0, 0, 0, 0);
        CHECK.row("TIRED AFTER none, behind a long RUN", child -> x.tired(child, 0), 0, 0, 0, 0, 0);
        for (int size = 10; size <= 60; size++) {
            CHECK.due("FLAKES AFTER none, behind a long RUN", x.flakes(0, size), 0);
        }
        Given.plan(x, "-04");
        CHECK.due("LAYER", x.after(4, 6), 49);
        CHECK.due("LAYER AFTER none, behind a long RUN", x.after(0, 6), 0);
        rows(new SaltIceCream(), 0, 3000, 1000, 0, 210, 1100, 0, 0, 0, 0, 0, 0, 13);
    }

    private static void frozen() {
        CHECK.says("FROZEN: grams of all FLAKES.");
        SaltIceCream x = Given.plan("a56");
        CHECK.due("FLAKES of the 5th MINUTE", x.flakes(6, 39), 20);
        CHECK.due("FLAKES of the 6th MINUTE", x.flakes(6, 34), 20);
        CHECK.row("FROZEN", m -> x.after(m, 5), 3, 0, 0, 20, 40);
        CHECK.due("FROZEN of SIZE 60", Given.water(600, "-06a12").after(8, 5), 8);
        CHECK.due("LAYER is not FROZEN", Given.water(600, "-06").after(6, 5), 0);
    }

    private static void line() {
        CHECK.says("LINE: 54 times SUGAR by (WATER less FROZEN less LAYER).");
        int[][] dues = {{600, 150, 13}, {600, 0, 0}, {100, 600, 324}, {2000, 37, 0}, {2000, 38, 1}, {2000, 600, 16}};
        SaltIceCream x = new SaltIceCream();
        for (int[] due : dues) {
            x.set(WATER, due[0]);
            x.set(SUGAR, due[1]);
            CHECK.due("LINE of " + due[0] + " and " + due[1], x.after(0, 11), due[2]);
        }
        SaltIceCream y = lastGram("-02");
        CHECK.row("LINE: LAYER is 30 of 100", m -> y.after(m, 11), 1, 8, 11);
        CHECK.row("LINE: FROZEN is 30 of 100", m -> Given.plan(y, "a92").after(m, 11), 1, 8, 11);
        CHECK.row("LINE: 4 FROZEN and 26 LAYER", m -> Given.plan(y, "a12").after(m, 11), 1, 8, 11);
    }

    private static void cold() {
        CHECK.says("COLD: 900 times SALT by (ICE, BRINE and SALT), 210 at most, as long as there is ICE;");
        int[][] dues = {{691, 209, 209}, {690, 210, 210}, {689, 211, 210}, {1, 3000, 210}, {9000, 3000, 210},
            {9000, 2739, 209}, {9000, 2740, 210}, {9000, 0, 0}, {899, 1, 1}, {900, 1, 0}, {1, 0, 0}};
        SaltIceCream x = Given.water(600, "-05");
        for (int[] due : dues) {
            Given.pail(x, due[0], due[1]);
            CHECK.row("COLD of " + due[0] + " and " + due[1], m -> x.after(m, 3), 0, due[2], due[2]);
        }
        Given.pail(x, 691, 209);
        CHECK.row("ICE that is BRINE counts", m -> x.after(m, 3), 0, 209, 209, 209, 209, 209, 209);
        Given.pail(x, 855, 45);
        Given.plan(x, "-01s1-01");
        CHECK.row("SALT that comes counts: 130500 by 1000", m -> x.after(m, 3), 0, 45, 45, 130);
    }

    private static void coldWithoutIce() {
        CHECK.says("without it 5 less than in the MINUTE ahead, 0 at least (0, if there was none from the beginning).");
        SaltIceCream x = Given.pail(Given.water(600, "-09-09-09"), 20, 3);
        // the first MINUTE melts 1404 / 80 and 3 grams: all 20
        CHECK.row("ICE", m -> x.after(m, 0), 0, 20, 0, 0);
        CHECK.row("COLD", m -> x.after(m, 3), 0, 117, 117, 112, 107);
        CHECK.row("COLD at the end", m -> x.after(m, 3), 23, 7, 2, 0, 0, 0);
        Given.pail(x, 21, 3);
        CHECK.row("2 grams are ICE", m -> x.after(m, 0), 0, 21, 2, 0);
        CHECK.row("COLD stays for them", m -> x.after(m, 3), 0, 112, 112, 112, 107);
        Given.pail(Given.plan(x, "-01s9-01"), 20, 3);
        CHECK.due("SALT comes", x.after(2, 1), 903);
        CHECK.due("SALT without ICE makes no COLD", x.after(2, 3), 112);
        Given.pail(Given.plan(x, "-09-09-09-09-09-09"), 10, 1000);
        CHECK.row("COLD", m -> x.after(m, 3), 0, 210, 210, 205, 200, 195);
        CHECK.row("COLD when it is gone", m -> x.after(m, 3), 42, 5, 0, 0);
        CHECK.due("COLD is 0 at least", x.after(54, 3), 0);
        Given.pail(Given.plan(x, "s9-03"), 0, 3000);
        CHECK.row("COLD, if there never was ICE", m -> x.after(m, 3), 0, 0, 0, 0, 0);
        Given.pail(x, 0, 0);
        CHECK.row("COLD of nothing", m -> x.after(m, 3), 0, 0, 0, 0, 0);
    }

    private static void stiff() {
        CHECK.says("STIFF: 100 times FROZEN by WATER, and AIR by 5.");
        SaltIceCream x = Given.water(310, "a91");
        CHECK.due("STIFF, 3100 by 310", x.after(1, 8), 10);
        x.set(WATER, 311);
        CHECK.due("STIFF, 3100 by 311", x.after(1, 8), 9);
        SaltIceCream y = Given.water(100, "a99a99");
        y.strong(0, 200);
        CHECK.row("FROZEN", m -> y.after(m, 5), 0, 0, 31, 62, 93, 99, 99);
        CHECK.row("AIR", m -> y.after(m, 7), 0, 0, 0, 3, 6, 9, 12);
        CHECK.row("STIFF", m -> y.after(m, 8), 0, 0, 31, 62, 94, 100, 101, 102, 102, 103, 103, 104, 104);
    }

    private static void flow() {
        CHECK.says("A MINUTE by a PACE (0 to 9), in this order:");
        SaltIceCream x = Given.water(600, "a01");
        rows(x, 1, 2966, 1000, 34, 210, 1000, 0, 31, 0, 0, 0, 0, 0);
        rows(Given.plan(x, "a91"), 1, 2966, 1000, 34, 210, 1000, 31, 0, 0, 5, 0, 1000, 0);

        CHECK.says("COLD is as the pail is; FLOW: 120 times (WARM and COLD) by (10 and LAYER), 0 at least.");
        Given.plan(x, "-06");
        CHECK.row("LAYER, the slower the more of it", m -> x.after(m, 6), 0, 0, 31, 38, 44, 49, 54, 58);
        x.set(SALT, 0);
        CHECK.row("no FLOW: 3 grams melt", m -> x.after(m, 0), 0, 3000, 2997, 2994);
        CHECK.row("no FLOW: none freeze", m -> x.after(m, 6), 0, 0, 0, 0);
        x.set(WARM, 6);
        CHECK.due("FLOW of 72: none melt besides", x.after(1, 0), 2997);
        x.set(WARM, 7);
        CHECK.due("FLOW of 84: 1 melts besides", x.after(1, 0), 2996);
        // WARM is far below COLD when the last gram is left: without 'at least' ICE would be 90 more
        CHECK.row("ICE by FLOW below 0", m -> lastGram("a99").after(m, 0), 5, 2845, 2842, 2839);
        CHECK.row("LAYER by FLOW below 0", m -> lastGram("a99").after(m, 6), 5, 0, 0, 0);
    }

    private static void melts() {
        CHECK.says("ICE less, BRINE more by (FLOW by 80), and 3 besides (by what ICE there is at most).");
        SaltIceCream x = Given.water(600, "-02");
        int[][] dues = {{0, 0, 0}, {1, 0, 1}, {2, 0, 2}, {3, 0, 3}, {4, 1, 3}, {9000, 8997, 3}};
        for (int[] due : dues) {
            Given.pail(x, due[0], 0);
            CHECK.due("ICE of " + due[0], x.after(1, 0), due[1]);
            CHECK.due("BRINE of " + due[0], x.after(1, 2), due[2]);
        }
        Given.pail(x, 33, 1000);
        CHECK.row("ICE, 34 would melt", m -> x.after(m, 0), 0, 33, 0, 0);
        CHECK.row("BRINE, 34 would melt", m -> x.after(m, 2), 0, 0, 33, 33);
        Given.pail(x, 34, 1000);
        CHECK.row("ICE, 34 melt", m -> x.after(m, 0), 0, 34, 0, 0);
        Given.pail(x, 35, 1000);
        CHECK.row("ICE, 34 melt, then the last", m -> x.after(m, 0), 0, 35, 1, 0);
        CHECK.row("BRINE", m -> x.after(m, 2), 0, 0, 34, 35);
    }

    private static void coolsAboveTheLine() {
        CHECK.says("If WARM (it may be below 0) is more than LINE below 0: it is less by 10 times FLOW by (WATER, SUGAR and FAT), "
            + "but not less than that;");
        SaltIceCream x = Given.plan("-06");
        rows(x, 1, 2951, 1000, 49, 210, 1058, 0, 0, 0, 0, 0, 0, 13);
        rows(x, 2, 2908, 1000, 92, 210, 1022, 0, 0, 0, 0, 0, 0, 13);
        CHECK.row("WARM, down to LINE", m -> x.after(m, 4), 3, 990, 987, 986);
        CHECK.row("LAYER, from LINE on", m -> x.after(m, 6), 3, 0, 0, 29);
        x.set(FAT, 400);
        CHECK.due("fat cream cools slower: 100 - 37200 / 1150", x.after(1, 4), 1068);
        x.set(WARM, 0);
        CHECK.due("but not below its LINE", x.after(1, 4), 987);
        CHECK.due("and does not freeze in that MINUTE", x.after(1, 6), 0);

        SaltIceCream y = Given.water(600, "-02");
        CHECK.due("at LINE it freezes at once", y.after(1, 6), 31);
        y.set(WARM, 1);
        CHECK.row("a tenth above LINE it cools first", m -> y.after(m, 6), 0, 0, 0, 31);
        y.set(SALT, 0);
        y.set(WARM, 6);
        CHECK.row("720 by 720, then 600 by 720", m -> y.after(m, 4), 0, 1006, 1005, 1005);
        y.set(FAT, 121);
        CHECK.row("720 by 721", m -> y.after(m, 4), 0, 1006, 1006, 1006);
        y.set(SUGAR, 1);
        y.set(FAT, 119);
        CHECK.due("SUGAR counts: 720 by 720", y.after(1, 4), 1005);
        y.set(FAT, 120);
        CHECK.due("SUGAR counts: 720 by 721", y.after(1, 4), 1006);
        Given.pail(y, 0, 0);
        y.set(SUGAR, 0);
        y.set(FAT, 0);
        y.set(WARM, 30);
        int[][] dues = {{100, 1000}, {119, 1000}, {120, 1000}, {121, 1001}};
        for (int[] due : dues) {
            y.set(WATER, due[0]);
            CHECK.due("WARM, 30 less 3600 by " + due[0], y.after(1, 4), due[1]);
        }
    }

    /** 100 grams of water with 15 of sugar, at 0 degrees. */
    private static SaltIceCream lastGram(String plan) {
        SaltIceCream x = Given.water(100, plan);
        x.set(SUGAR, 15);
        x.set(FAT, 0);
        x.strong(0, 200);
        return x;
    }

    private static void freezes() {
        CHECK.says("else FLOW by 80 grams freeze onto LAYER (as many as leave 1 of WATER at most), and WARM is LINE below 0.");
        CHECK.due("LAYER by FLOW of 72", Given.waterByCold(6, "-01").after(1, 6), 0);
        CHECK.due("LAYER by FLOW of 84", Given.waterByCold(7, "-01").after(1, 6), 1);
        CHECK.due("LAYER by FLOW of 156", Given.waterByCold(13, "-01").after(1, 6), 1);
        CHECK.due("LAYER by FLOW of 168", Given.waterByCold(14, "-01").after(1, 6), 2);
        SaltIceCream x = lastGram("a96");
        rows(x, 1, 2966, 1000, 34, 210, 992, 0, 0, 0, 0, 0, 0, 8);
        rows(x, 2, 2933, 1000, 67, 210, 989, 30, 0, 0, 30, 0, 1000, 11);
        rows(x, 3, 2901, 1000, 99, 210, 981, 59, 0, 0, 59, 0, 1000, 19);
        rows(x, 4, 2870, 1000, 130, 210, 938, 87, 0, 0, 87, 1, 1000, 62);
        rows(x, 5, 2845, 1000, 155, 210, 190, 99, 0, 0, 99, 2, 878, 810);
        rows(x, 6, 2842, 1000, 158, 210, 190, 99, 0, 0, 99, 3, 878, 810);
        SaltIceCream y = Given.water(100, "-09-09-09-09");
        y.set(SUGAR, 1);
        CHECK.due("LAYER leaves a gram", y.after(36, 6), 99);
        CHECK.due("its LINE", y.after(36, 11), 54);
        CHECK.due("its WARM", y.after(36, 4), 946);
        SaltIceCream z = Given.water(100, "a99");
        z.strong(0, 200);
        CHECK.row("FROZEN leaves a gram", m -> z.after(m, 5), 3, 93, 99, 99, 99);
        y.set(SUGAR, 600);
        y.set(WATER, 100);
        CHECK.due("WARM is nearly as COLD as the pail, and above LINE", y.after(36, 4), 796);
        CHECK.due("nothing freezes above LINE", y.after(36, 6), 0);
    }

    private static void scrapes() {
        CHECK.says("Then 4 times PACE grams of LAYER, if there are as many, else all, are scraped off:");
        int[][] dues = {{20, 13, 3, 0}, {27, 14, 4, 0}, {34, 15, 4, 1}};
        for (int[] due : dues) {
            SaltIceCream x = Given.waterByCold(due[0], "a11");
            CHECK.due("FLAKES by COLD " + due[0], x.flakes(1, due[1]), due[2]);
            CHECK.due("FROZEN by COLD " + due[0], x.after(1, 5), due[2]);
            CHECK.due("LAYER by COLD " + due[0], x.after(1, 6), due[3]);
        }
        SaltIceCream y = Given.water(600, "-01a91");
        CHECK.due("36 of 38 grams", y.flakes(2, 48), 36);
        CHECK.due("2 stay on the wall", y.after(2, 6), 2);
        CHECK.due("none by PACE 0", Given.plan(y, "a01").after(1, 5), 0);
        CHECK.due("all stay by PACE 0", y.after(1, 6), 31);
        y.set(SALT, 0);
        CHECK.due("none of none", Given.plan(y, "a91").after(1, 5), 0);

        CHECK.says("FLAKES of SIZE 10 and LAYER (as it was ahead of that), 60 at most.");
        CHECK.due("SIZE 11", Given.waterByCold(7, "a91").flakes(1, 11), 1);
        SaltIceCream x = Given.water(600, "-03a11");
        CHECK.due("SIZE 59", x.flakes(4, 59), 4);
        CHECK.due("45 stay on the wall", x.after(4, 6), 45);
        // LAYER by COLD 184 is 27, 34, 40, 45, 50; by COLD 187 28, 35, 41, 46, 51
        CHECK.row("SIZE 59 and 60, by LAYER 50", size -> Given.waterByCold(184, "-04a11").flakes(5, size), 59, 0, 4);
        CHECK.row("SIZE 59 and 60, by LAYER 51", size -> Given.waterByCold(187, "-04a11").flakes(5, size), 59, 0, 4);
        CHECK.due("SIZE 60, by LAYER 62", Given.plan(x, "-06a11").flakes(7, 60), 4);
    }

    private static SaltIceCream strongWater(int grams, String plan) {
        SaltIceCream x = Given.water(grams, plan);
        x.strong(0, 200);
        return x;
    }

    private static void air() {
        CHECK.says("AIR is more by PACE by 3, if FAT is 50 or more, STIFF was 10 or more as the MINUTE began, "
            + "and CHURNED is below 8 (100 at most).");
        SaltIceCream x = strongWater(100, "a99a99");
        CHECK.row("AIR", m -> x.after(m, 7), 0, 0, 0, 3, 6, 9, 12, 15, 18, 21, 24, 27, 27, 27);
        CHECK.row("CHURNED", m -> x.after(m, 9), 9, 7, 8, 9, 10);
        x.set(FAT, 50);
        CHECK.due("AIR by FAT 50", x.after(4, 7), 9);
        x.set(FAT, 49);
        CHECK.due("AIR by FAT 49", x.after(4, 7), 0);
        x.set(FAT, 120);
        x.set(WATER, 310);
        CHECK.due("AIR, STIFF was 10", x.after(2, 7), 3);
        x.set(WATER, 311);
        CHECK.due("AIR, STIFF was 9", x.after(2, 7), 0);
        x.set(WATER, 100);
        Given.plan(x, "a92a01a11a21a31a51a61");
        CHECK.row("AIR by PACE by 3", m -> x.after(m, 7), 2, 3, 3, 3, 3, 4, 5, 7);
        airAtMost();
    }

    /** The ICE is gone behind the first MINUTE: so little of much WATER freezes that nothing is CHURNED. */
    private static void airAtMost() {
        SaltIceCream y = Given.pail(Given.water(2000, "a99a99b99b99c99c99"), 34, 1000);
        y.set(SUGAR, 600);
        Given.strong(y, 200, 200, 200, 200);
        int first = 1;
        while (first < 20 && y.after(first, 7) == 0) {
            first++;
        }
        CHECK.row("AIR, up to 100", m -> y.after(m, 7), first, 3, 6, 9);
        CHECK.row("AIR, up to 100", m -> y.after(m, 7), first + 31, 96, 99, 100, 100);
        CHECK.due("AIR is 100 at most", y.after(54, 7), 100);
        CHECK.due("it is no butter", y.after(54, 9), 0);
    }

    private static void churned() {
        CHECK.says("CHURNED is one more, if PACE is 6 or more and STIFF was 50 or more then.");
        SaltIceCream x = strongWater(100, "a92a21a31a51a61a71");
        CHECK.row("CHURNED by PACE 6 or more", m -> x.after(m, 9), 2, 0, 0, 0, 0, 1, 2);
        Given.plan(x, "a93");
        x.set(WATER, 124);
        CHECK.due("CHURNED, STIFF was 50", x.after(3, 9), 1);
        x.set(WATER, 125);
        CHECK.due("CHURNED, STIFF was 49", x.after(3, 9), 0);
        x.set(WATER, 100);
        x.set(FAT, 0);
        CHECK.due("CHURNED without FAT", x.after(3, 9), 1);

        CHECK.says("(By 8 it is butter.)");
        SaltIceCream y = strongWater(100, "a99a99");
        CHECK.row("CHURNED goes on", m -> y.after(m, 9), 2, 0, 1, 2, 3, 4, 5, 6, 7, 8, 9, 10);
        CHECK.row("AIR does not", m -> y.after(m, 7), 9, 24, 27, 27, 27);
    }

    private static void afterMinutes() {
        CHECK.says("AFTER so many MINUTES of THE PLAN (no more than it has; SALT that comes ahead of a MINUTE counts for it, "
            + "and what comes behind the last one behind all): the numbers of 1.");
        SaltIceCream x = Given.plan("s5-01s2-01s1s3");
        x.set(SALT, 100);
        CHECK.row("SALT", m -> x.after(m, 1), -1, OUTSIDE, 100, 600, 1200, OUTSIDE);
        CHECK.row("COLD", m -> x.after(m, 3), -1, OUTSIDE, 29, 150, 189, OUTSIDE);
        Given.plan(x, "s9s9");
        CHECK.row("SALT behind all of no MINUTES", m -> x.after(m, 1), -1, OUTSIDE, 1900, OUTSIDE);
        Given.plan(x, "s1s1s1s1s1s1s1s1s1s1s1s1s1s1s1s1s1s1s1s9");
        CHECK.due("SALT of 20 PARTS", x.after(0, 1), 2900);
        Given.plan(x, "-01s4");
        CHECK.row("SALT behind the last MINUTE", m -> x.after(m, 1), 0, 100, 500);
        CHECK.due("COLD as that MINUTE had it", x.after(1, 3), 29);
        Given.plan(x, "-02s4-01");
        CHECK.row("SALT between MINUTES", m -> x.after(m, 1), 0, 100, 100, 100, 500);
        CHECK.due("SALT of 1 stays", x.told(11), 100);
        Given.plan(x, "-99-99-99-99-99-99-99-99-99-99-99-99-99");
        CHECK.row("the longest PLAN", m -> x.after(m, 1), 116, 100, 100, OUTSIDE);
        CHECK.row("no PLAN", m -> Given.plan(x, "").after(m, 1), -1, OUTSIDE, 100, OUTSIDE);
    }

    private static void promise8After() {
        CHECK.says("`int after(int minutes, int what)`: AFTER so many MINUTES: 0 ICE, 1 SALT, 2 BRINE, 3 COLD (as the last MINUTE "
            + "had it; AFTER none by ICE and SALT of 1), 4 WARM and 1000, 5 FROZEN, 6 LAYER, 7 AIR, 8 STIFF, 9 CHURNED, "
            + "10 COARSE, 11 LINE. OUTSIDE.");
        SaltIceCream x = Given.water(600, "-06");
        int[][] outside = {{-1, 0}, {7, 0}, {0, -1}, {0, 12}, {6, 12}, {7, 11}, {Integer.MIN_VALUE, 0}, {Integer.MAX_VALUE, 0},
            {0, Integer.MIN_VALUE}, {0, Integer.MAX_VALUE}};
        for (int[] which : outside) {
            CHECK.due("after(" + which[0] + ", " + which[1] + ")", x.after(which[0], which[1]), OUTSIDE);
        }
        rows(x, 6, 2924, 1000, 76, 210, 1000, 0, 58, 0, 0, 0, 0, 0, OUTSIDE);
        Given.pail(x, 900, 100);
        CHECK.due("COLD AFTER none by SALT of 1", Given.plan(x, "s9-01").after(0, 3), 90);
        CHECK.due("COLD AFTER none by SALT of 1, if there are no MINUTES", Given.plan(x, "s9").after(0, 3), 90);
        x.set(ICE, 0);
        CHECK.due("COLD AFTER none without ICE", x.after(0, 3), 0);
        SaltIceCream y = lastGram("a99");
        y.set(SUGAR, 20);
        CHECK.due("WARM and 1000 may be below 0: 1080 tenths", y.after(9, 4), -80);
        CHECK.due("its LINE", y.after(9, 11), 1080);
    }

    static Check all() {
        runBegins();
        frozen();
        line();
        cold();
        coldWithoutIce();
        stiff();
        flow();
        melts();
        coolsAboveTheLine();
        freezes();
        scrapes();
        air();
        churned();
        afterMinutes();
        promise8After();
        return CHECK;
    }

    public static void main(String[] args) {
        all().end();
    }
}
