/** Promise 9 (flakes), and COARSE. */
public final class FlakesTest {
    private static final Check CHECK = new Check("FlakesTest");
    private static final int OUTSIDE = SaltIceCream.OUTSIDE;

    private static void promise9Flakes() {
        CHECK.says("`int flakes(int minutes, int size)`: FLAKES of a SIZE (10 to 60) AFTER so many MINUTES: grams. OUTSIDE.");
        SaltIceCream x = Given.pail(Given.water(600, "a91"), 1000, 174);
        CHECK.row("flakes(1) of SIZE", size -> x.flakes(1, size), 28, 0, 19, 0);
        CHECK.row("flakes() of SIZE 29 AFTER", m -> x.flakes(m, 29), -1, OUTSIDE, 0, 19, OUTSIDE);
        CHECK.row("flakes(1) at the edges", size -> x.flakes(1, size), 9, OUTSIDE, 0);
        CHECK.row("flakes(1) at the edges", size -> x.flakes(1, size), 60, 0, OUTSIDE);
        int[] far = {Integer.MIN_VALUE, -29, 0, 63, Integer.MAX_VALUE};
        for (int n : far) {
            CHECK.due("flakes(1, " + n + ")", x.flakes(1, n), OUTSIDE);
            CHECK.due("flakes(" + n + ", 29)", x.flakes(n, 29), n == 0 ? 0 : OUTSIDE);
        }
        CHECK.row("FLAKES of an earlier MINUTE stay", m -> Given.plan("a56").flakes(m, 39), 4, 0, 20, 20);
        CHECK.row("no PLAN", m -> new SaltIceCream().flakes(m, 10), -1, OUTSIDE, 0, OUTSIDE);
        SaltIceCream y = Given.plan(Given.water(600, "a12-01a11"), "-06a12");
        CHECK.row("FLAKES of SIZE 60", m -> y.flakes(m, 60), 6, 0, 4, 8, OUTSIDE);
    }

    private static void coarse() {
        CHECK.says("COARSE: of FROZEN the thousandths in FLAKES of SIZE 30 or more (0, if there are none).");
        SaltIceCream x = Given.pail(Given.water(600, "a91"), 1000, 174);
        CHECK.due("no FLAKES", x.after(0, 10), 0);
        CHECK.due("SIZE 29 alone", x.after(1, 10), 0);
        x.set(Given.SALT, 175);
        CHECK.due("FLAKES of SIZE 30", x.flakes(1, 30), 20);
        CHECK.due("SIZE 30 alone", x.after(1, 10), 1000);
        CHECK.due("SIZE 60 alone", Given.water(600, "-06a11").after(7, 10), 1000);
        // 12 grams of SIZE 22 by 100 grams of SALT, then 31 of SIZE 41 by 1000: 31000 by 43
        SaltIceCream y = Given.pail(Given.water(600, "a91s9a91"), 1000, 100);
        CHECK.row("COARSE, cut", m -> y.after(m, 10), 0, 0, 0, 720);
        CHECK.due("none of nothing", Given.plan(y, "-99").after(9, 10), 0);
    }

    private static void quotients() {
        CHECK.says("Quotients are cut towards 0.");
        CHECK.due("COARSE, 31000 by 43", Given.pail(Given.water(600, "a91s9a91"), 1000, 100).after(2, 10), 720);
        CHECK.due("LINE, 8100 by 600", new SaltIceCream().after(0, 11), 13);
        CHECK.due("STIFF, 3100 by 600", Given.water(600, "a91").after(1, 8), 5);
        CHECK.due("TIRED by PACE 9", Given.water(600, "a91").tired(0, 1), 4);
        CHECK.due("COLD, 899100 by 9999", Given.pail(new SaltIceCream(), 9000, 999).after(0, 3), 89);
        CHECK.due("LAYER, 2520 by 80", Given.water(600, "-01").after(1, 6), 31);
    }

    static Check all() {
        promise9Flakes();
        coarse();
        quotients();
        return CHECK;
    }

    public static void main(String[] args) {
        all().end();
    }
}
