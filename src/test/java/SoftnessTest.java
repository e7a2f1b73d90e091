/** Promises 20 (iceAt), 21 (soft), 22 (sugarFor). */
public final class SoftnessTest {
    private static final Check CHECK = new Check("SoftnessTest");
    private static final int OUTSIDE = SaltIceCream.OUTSIDE, NONE = SaltIceCream.NONE;
    private static final long LOST_OUTSIDE = -1000000000000000002L;
    private static final int[] FAR = {Integer.MIN_VALUE, -300, -1, 301, Integer.MAX_VALUE};

    private static SaltIceCream cream(SaltIceCream x, int water, int sugar, int share) {
        x.set(Given.WATER, water);
        x.set(Given.SUGAR, sugar);
        x.set(Given.SHARE, share);
        return x;
    }

    private static void iceAt(SaltIceCream x, int t, long upper, long lower) {
        CHECK.row("iceAt(" + t + ") by part", part -> x.iceAt(t, part), -1, LOST_OUTSIDE, upper, lower, LOST_OUTSIDE);
    }

    private static void promise20IceAt() {
        CHECK.says("ICE AT t tenths below 0 (1 to 300): of WATER the part that is ice: 1 less 54 times SUGAR by (t times WATER), "
            + "0 at least (a fraction).");
        SaltIceCream x = new SaltIceCream();
        iceAt(x, 1, 0, 1);
        iceAt(x, 13, 0, 1);
        iceAt(x, 14, 1, 28);
        iceAt(x, 100, 173, 200);
        iceAt(x, 300, 191, 200);
        cream(x, 600, 100, 300);
        iceAt(x, 8, 0, 1);
        iceAt(x, 9, 0, 1);
        iceAt(x, 10, 1, 10);
        cream(x, 600, 0, 300);
        iceAt(x, 1, 1, 1);
        iceAt(x, 300, 1, 1);
        cream(x, 100, 600, 300);
        iceAt(x, 300, 0, 1);

        CHECK.says("Fractions are told by part: 0 the upper, 1 the lower number, in lowest terms; refused with LOST and the refusal.");
        cream(x, 1999, 1, 300);
        iceAt(x, 299, 597647, 597701);
        iceAt(x, 300, 99941, 99950);
        cream(x, 2000, 600, 300);
        iceAt(x, 300, 473, 500);
        CHECK.due("iceAt(0, 0)", x.iceAt(0, 0), SaltIceCream.LOST + OUTSIDE);
        CHECK.due("iceAt(1, 2)", x.iceAt(1, 2), LOST_OUTSIDE);

        CHECK.says("`long iceAt(int t, int part)`: ICE AT. OUTSIDE.");
        iceAt(x, 0, LOST_OUTSIDE, LOST_OUTSIDE);
        for (int far : FAR) {
            iceAt(x, far, LOST_OUTSIDE, LOST_OUTSIDE);
            CHECK.due("iceAt(1, " + far + ")", x.iceAt(1, far), LOST_OUTSIDE);
        }
    }

    private static void soft(int water, int sugar, int share, int due) {
        SaltIceCream x = cream(new SaltIceCream(), water, sugar, share);
        CHECK.due("soft() of " + water + ", " + sugar + ", " + share, x.soft(), due);
    }

    private static void promise21Soft() {
        CHECK.says("SOFT: the greatest t at which that is no more than SHARE thousandths.");
        soft(600, 150, 300, 19);
        soft(600, 150, 900, 135);
        soft(600, 150, 899, 133);
        soft(600, 150, 1, 13);
        soft(540, 1, 900, 1);
        soft(2000, 600, 900, 162);
        soft(180, 100, 900, 300);
        soft(181, 100, 900, 298);
        soft(179, 100, 900, 300);

        CHECK.says("`int soft()`: SOFT; NONE: at none.");
        soft(600, 0, 900, NONE);
        soft(2000, 1, 900, NONE);
        soft(541, 1, 900, NONE);
        soft(100, 600, 300, 300);
        soft(100, 1, 1, NONE);
        soft(100, 2, 1, 1);
    }

    private static void promise22SugarFor() {
        CHECK.says("SUGAR for a t: the least (0 to 600) by which it is SOFT at t.");
        SaltIceCream x = new SaltIceCream();
        CHECK.row("sugarFor()", x::sugarFor, 8, 63, 70, 78);
        x.set(Given.SUGAR, 600);
        CHECK.due("SUGAR that there is does not count", x.sugarFor(9), 70);
        CHECK.due("and stays", x.told(13), 600);
        cream(x, 2000, 150, 900);
        CHECK.row("sugarFor(), up to 600", x::sugarFor, 161, 597, 600, NONE);
        cream(x, 600, 150, 900);
        CHECK.due("sugarFor(300), 180000 by 540", x.sugarFor(300), 334);
        cream(x, 540, 150, 900);
        CHECK.row("just so much: 54 by 54, 108 by 54", x::sugarFor, 1, 1, 2);

        CHECK.says("`int sugarFor(int t)`: SUGAR for a t; NONE. OUTSIDE.");
        SaltIceCream y = new SaltIceCream();
        CHECK.row("sugarFor()", y::sugarFor, -1, OUTSIDE, OUTSIDE, 8);
        CHECK.row("sugarFor(), 599 at most", y::sugarFor, 77, 599, NONE);
        CHECK.row("sugarFor()", y::sugarFor, 299, NONE, NONE, OUTSIDE);
        for (int far : FAR) {
            CHECK.due("sugarFor(" + far + ")", y.sugarFor(far), OUTSIDE);
        }
    }

    static Check all() {
        promise20IceAt();
        promise21Soft();
        promise22SugarFor();
        return CHECK;
    }

    public static void main(String[] args) {
        all().end();
    }
}
