/** Promises 10 (tired), 11 (held): who can turn, and who can not. */
public final class ChildrenTest {
    private static final Check CHECK = new Check("ChildrenTest");
    private static final int OUTSIDE = SaltIceCream.OUTSIDE, UNKNOWN = SaltIceCream.UNKNOWN, NONE = SaltIceCream.NONE;

    /** A PLAN without ICE: nothing freezes, and STIFF is always 0. */
    private static SaltIceCream still(String plan) {
        SaltIceCream x = Given.plan(plan);
        x.set(Given.ICE, 0);
        return x;
    }

    private static void canTurn() {
        CHECK.says("A CHILD can turn by a PACE (above 0) in a MINUTE, if STIFF and 4 times PACE are no more than STRONG less TIRED "
            + "(STIFF as the MINUTE begins);");
        for (int pace = 1; pace <= 9; pace++) {
            SaltIceCream x = still("c" + pace + "1");
            x.strong(2, 4 * pace);
            CHECK.due("just STRONG enough for PACE " + pace, x.held(0), 0);
            x.strong(2, 4 * pace - 1);
            CHECK.due("just too weak for PACE " + pace, x.held(0), 1);
        }
        SaltIceCream x = still("a11");
        x.strong(0, 0);
        CHECK.due("not STRONG at all", x.held(0), 1);
        Given.plan(x, "a59");
        x.strong(0, 20);
        CHECK.row("TIRED by STRONG 20", m -> x.tired(0, m), 0, 0, 2, 1, 0, 2, 1, 0, 2, 1, 0);
        x.strong(0, 21);
        CHECK.row("TIRED by STRONG 21", m -> x.tired(0, m), 0, 0, 2, 1, 3, 2, 1, 3, 2, 1, 3);
        SaltIceCream y = Given.water(100, "a92");
        y.strong(0, 70);
        CHECK.due("31 and 36 are more than 70 less 4", y.held(1), 1);
        y.strong(0, 71);
        CHECK.due("31 and 36 are 71 less 4", y.held(0), 0);
        y.strong(0, 36);
        CHECK.due("STIFF behind the MINUTE is 31", Given.plan(y, "a91").held(0), 0);
    }

    private static void canNotTurn() {
        CHECK.says("else he does not: PACE 0 (then nobody is TIRED more).");
        SaltIceCream x = Given.water(600, "a91b91");
        x.strong(1, 0);
        CHECK.row("FROZEN", m -> x.after(m, 5), 0, 0, 31, 31);
        CHECK.row("LAYER", m -> x.after(m, 6), 0, 0, 0, 31);
        CHECK.row("TIRED, who turned", m -> x.tired(0, m), 0, 0, 4, 3);
        CHECK.row("TIRED, who could not", m -> x.tired(1, m), 0, 0, 0, 0);
        SaltIceCream y = Given.water(100, "a93b91");
        Given.strong(y, 200, 0, 0, 0);
        CHECK.row("AIR", m -> y.after(m, 7), 2, 3, 6, 6);
        CHECK.row("CHURNED", m -> y.after(m, 9), 2, 0, 1, 1);
        Given.strong(y, 200, 200, 0, 0);
        CHECK.row("AIR, if he can", m -> y.after(m, 7), 2, 3, 6, 9);
        CHECK.row("CHURNED, if he can", m -> y.after(m, 9), 2, 0, 1, 2);
    }

    private static void nobodyTurns() {
        CHECK.says("Nobody turns by PACE 0.");
        SaltIceCream x = Given.water(600, "-99");
        CHECK.due("FROZEN by nobody", x.after(9, 5), 0);
        CHECK.row("TIRED by nobody", child -> x.tired(child, 9), 0, 0, 0, 0, 0);
        CHECK.due("HELD by nobody", x.held(0), 0);
        Given.plan(x, "a09");
        CHECK.due("FROZEN by PACE 0", x.after(9, 5), 0);
        CHECK.row("TIRED by PACE 0", child -> x.tired(child, 9), 0, 0, 0, 0, 0);
        Given.plan(x, "a91a03");
        CHECK.row("TIRED less by PACE 0", m -> x.tired(0, m), 0, 0, 4, 3, 2, 1);
        x.strong(0, 0);
        CHECK.due("HELD by PACE 0", Given.plan(x, "a09").held(0), 0);
    }

    private static void tiredMoreAndLess() {
        CHECK.says("Who turned is TIRED more by PACE by 2, all others 1 less (0 at least).");
        int[] more = {0, 0, 1, 1, 2, 2, 3, 3, 4, 4};
        for (int pace = 0; pace <= 9; pace++) {
            CHECK.due("TIRED by PACE " + pace, still("b" + pace + "1").tired(1, 1), more[pace]);
        }
        CHECK.row("PACE 1: neither more nor less", m -> still("a51a13").tired(0, m), 1, 2, 2, 2, 2);
        SaltIceCream x = still("d91c71b51a31");
        CHECK.row("TIRED of d", m -> x.tired(3, m), 0, 0, 4, 3, 2, 1);
        CHECK.row("TIRED of c", m -> x.tired(2, m), 0, 0, 0, 3, 2, 1);
        CHECK.row("TIRED of b", m -> x.tired(1, m), 0, 0, 0, 0, 2, 1);
        CHECK.row("TIRED of a", m -> x.tired(0, m), 0, 0, 0, 0, 0, 1);
        CHECK.row("TIRED is 0 at least", m -> still("a31-03").tired(0, m), 0, 0, 1, 0, 0, 0);
        CHECK.row("TIRED is 0 at least", m -> still("a31b13").tired(0, m), 0, 0, 1, 0, 0, 0);
    }

    private static void promise10Tired() {
        CHECK.says("`int tired(int child, int minutes)`: TIRED of a CHILD AFTER so many MINUTES. UNKNOWN; OUTSIDE.");
        SaltIceCream x = still("a52a11b71-01a01c11");
        CHECK.row("tired(0)", m -> x.tired(0, m), -1, OUTSIDE, 0, 2, 4, 4, 3, 2, 1, 0, OUTSIDE);
        CHECK.row("tired(1)", m -> x.tired(1, m), -1, OUTSIDE, 0, 0, 0, 0, 3, 2, 1, 0, OUTSIDE);
        CHECK.row("tired() AFTER 3", child -> x.tired(child, 3), -1, UNKNOWN, 4, 0, 0, 0, UNKNOWN);
        CHECK.due("tired(4, 99): UNKNOWN comes first", x.tired(4, 99), UNKNOWN);
        CHECK.due("tired(-1, -1): UNKNOWN comes first", x.tired(-1, -1), UNKNOWN);
        int[] far = {Integer.MIN_VALUE, Integer.MAX_VALUE};
        for (int n : far) {
            CHECK.due("tired(" + n + ", 0)", x.tired(n, 0), UNKNOWN);
            CHECK.due("tired(0, " + n + ")", x.tired(0, n), OUTSIDE);
        }
        CHECK.row("no PLAN", m -> new SaltIceCream().tired(3, m), -1, OUTSIDE, 0, OUTSIDE);
    }

    private static void heldMinutes() {
        CHECK.says("HELD: MINUTES of THE PLAN that some CHILD should have turned, but could not: how many, the first.");
        SaltIceCream x = still("a59");
        x.strong(0, 20);
        CHECK.row("HELD by STRONG 20", x::held, 0, 6, 1);
        x.strong(0, 21);
        CHECK.row("HELD by STRONG 21", x::held, 0, 5, 1);
        x.strong(0, 19);
        CHECK.row("HELD by STRONG 19", x::held, 0, 9, 0);
        Given.plan(x, "d91c71b51a31");
        for (int child = 0; child < 4; child++) {
            Given.strong(x, 200, 200, 200, 200);
            x.strong(child, 0);
            CHECK.row("HELD without " + child, x::held, 0, 1, 3 - child);
        }
        Given.strong(x, 0, 0, 0, 0);
        CHECK.row("HELD without any", x::held, 0, 4, 0);
        SaltIceCream late = still("-99-99-99-99-99-99-99-99-99-99-99-98b91");
        late.strong(1, 0);
        CHECK.row("HELD in the very last MINUTE", late::held, 0, 1, late.told(1) - 1);
        SaltIceCream all = still("a99b99c99d99a99b99c99d99a99b99c99d99a99");
        Given.strong(all, 0, 0, 0, 0);
        CHECK.row("HELD in each of 117 MINUTES", all::held, 0, 117, 0);
    }

    private static void promise11Held() {
        CHECK.says("`int held(int what)`: HELD: how many (what = 0), the first (1; from 0 on); NONE. OUTSIDE.");
        SaltIceCream x = still("a59");
        CHECK.row("held() of nothing HELD", x::held, -1, OUTSIDE, 0, NONE, OUTSIDE);
        x.strong(0, 19);
        CHECK.row("held()", x::held, -1, OUTSIDE, 9, 0, OUTSIDE);
        Given.plan(x, "a09-99");
        CHECK.row("PACE 0 and nobody are not HELD", x::held, 0, 0, NONE);
        CHECK.row("SALT alone", Given.plan(x, "s9")::held, 0, 0, NONE);
        CHECK.row("no PLAN", Given.plan(x, "")::held, 0, 0, NONE);
        CHECK.due("held(lowest int)", x.held(Integer.MIN_VALUE), OUTSIDE);
        CHECK.due("held(greatest int)", x.held(Integer.MAX_VALUE), OUTSIDE);
    }

    static Check all() {
        canTurn();
        canNotTurn();
        nobodyTurns();
        tiredMoreAndLess();
        promise10Tired();
        heldMinutes();
        promise11Held();
        return CHECK;
    }

    public static void main(String[] args) {
        all().end();
    }
}
