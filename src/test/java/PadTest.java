/** Promises 4 (say), 5 (wipe), 6 (fault), 7 (plan). */
public final class PadTest {
    private static final Check CHECK = new Check("PadTest");
    private static final int OUTSIDE = SaltIceCream.OUTSIDE, NONE = SaltIceCream.NONE, NO = SaltIceCream.NO;
    private static final int FULL = SaltIceCream.FULL;
    private static final String THIRTY_NINE = "a11b11c11d11a11b11c11d11a11b11c11d11-11";
    private static final String TWENTY_SALTS = "s1s1s1s1s1s1s1s1s1s1s1s1s1s1s1s1s1s1s1s1";
    private static final String FORTY_DIGITS = "1234567890123456789012345678901234567890";

    private static void promise4Say() {
        CHECK.says("A PLAN is a text on a PAD of SIGNS (codes 33 to 126, 40 at most):");
        SaltIceCream x = new SaltIceCream();
        CHECK.due("say(32)", x.say(32), OUTSIDE);
        CHECK.due("say(127)", x.say(127), OUTSIDE);
        CHECK.due("say(33)", x.say(33), 1);
        CHECK.due("say(126)", x.say(126), 2);
        SaltIceCream each = new SaltIceCream();
        for (int sign = 33; sign <= 126; sign++) {
            CHECK.due("say(" + sign + ")", each.say(sign), 1);
            each.wipe();
        }

        CHECK.says("`int say(int sign)`: A sign more: how many. OUTSIDE; FULL.");
        for (int n = 3; n <= 40; n++) {
            CHECK.due("say() for the " + n + ".", x.say('a'), n);
        }
        CHECK.due("a 41st", x.say('a'), FULL);
        CHECK.due("a 42nd", x.say('a'), FULL);
        CHECK.due("a wrong 41st: OUTSIDE comes first", x.say(127), OUTSIDE);
        CHECK.due("told(0)", x.told(0), 40);
        int[] far = {Integer.MIN_VALUE, -97, -1, 0, 10, 128, 255, 256 + 97, 65536 + 97, Integer.MAX_VALUE};
        SaltIceCream y = new SaltIceCream();
        for (int sign : far) {
            CHECK.due("say(" + sign + ")", y.say(sign), OUTSIDE);
        }
        CHECK.due("told(0) behind refused signs", y.told(0), 0);
        SaltIceCream full = Given.signs(new SaltIceCream(), TWENTY_SALTS);
        CHECK.due("a 41st", full.say('x'), FULL);
        CHECK.due("a refused sign does not stand on the PAD", full.fault(0), NONE);
        CHECK.due("plan() of a full PAD", full.plan(), 0);
        CHECK.due("told(2)", full.told(2), 20);
        CHECK.due("a sign behind it", full.say('a'), 1);
    }

    private static void promise5Wipe() {
        CHECK.says("`int wipe()`: Signs go: how many there were.");
        SaltIceCream x = new SaltIceCream();
        CHECK.due("wipe() of nothing", x.wipe(), 0);
        Given.signs(x, "~~~");
        CHECK.due("wipe()", x.wipe(), 3);
        CHECK.due("told(0)", x.told(0), 0);
        CHECK.due("wipe() again", x.wipe(), 0);
        CHECK.due("say() behind it", x.say('a'), 1);
        CHECK.due("fault(0) sees the new sign alone", x.fault(0), 1);
        Given.signs(x, FORTY_DIGITS);
        CHECK.due("wipe() of a full PAD", x.wipe(), 40);
        CHECK.due("say() behind a full PAD", x.say('a'), 1);
        Given.box(Given.plan(x, "a59"), "12");
        Given.signs(x, "q");
        CHECK.due("wipe()", x.wipe(), 1);
        CHECK.row("signs alone go", x::told, 0, 0, 9, 1, 2);
    }

    private static void fault(String text, int asPlan, int asBox) {
        SaltIceCream x = Given.signs(new SaltIceCream(), text);
        CHECK.due("fault(0) of '" + text + "'", x.fault(0), asPlan);
        CHECK.due("fault(1) of '" + text + "'", x.fault(1), asBox);
        CHECK.due("plan() of '" + text + "'", x.plan() == NO ? 1 : 0, asPlan == NONE ? 0 : 1);
        Given.signs(x, text);
        CHECK.due("box() of '" + text + "'", x.box() == NO ? 1 : 0, asBox == NONE ? 0 : 1);
    }

    private static void partsOfAPlan() {
        CHECK.says("PARTS: a CHILD a to d or - (nobody), a digit PACE, a digit 1 to 9 (so many MINUTES);");
        String[] right = {"a51", "b51", "c51", "d51", "-51", "a01", "a99", "a91", "-01", "-99", "d09"};
        for (String text : right) {
            fault(text, NONE, 0);
        }
        String[] beginsWrong = {"e51", "`51", "A51", "D51", ",51", ".51", "~51", "!51", "r1", "t1", "S1"};
        for (String text : beginsWrong) {
            fault(text, 0, 0);
        }
        String[] paceWrong = {"aa1", "a:1", "a/1", "a-1", "as1", "-a1", "-/1", "-:1", "b!1", "d~1"};
        for (String text : paceWrong) {
            fault(text, 1, 0);
        }
        String[] minutesWrong = {"a50", "-50", "a5:", "a5/", "a5s", "a5a", "a5-", "a00", "d5!", "c5~"};
        for (String text : minutesWrong) {
            fault(text, 2, 0);
        }
        CHECK.says("or s and a digit: so many hundred grams of SALT more, at once.");
        fault("s0", NONE, 0);
        fault("s9", NONE, 0);
        fault("ss", 1, 0);
        fault("s-", 1, 0);
        fault("s/", 1, 0);
        fault("s:", 1, 0);
        fault("s12", 2, 0);
        fault("s9a51s0b92", NONE, 0);
        SaltIceCream x = Given.plan("s0");
        CHECK.due("SALT by s0", x.after(0, 1), 1000);
        CHECK.due("SALT by s9", Given.plan(x, "s9").after(0, 1), 1900);
        CHECK.due("SALT beyond what set() may set", Given.plan(x, "s9s9s9").after(0, 1), 3700);
    }

    private static void promise6Fault() {
        CHECK.says("THE FAULT: the place (from 0 on) of the first sign that can not stand there;");
        fault("x", 0, 0);
        fault("x5y", 0, 0);
        fault("a51x", 3, 0);
        fault("a51x5y", 3, 0);
        fault("a51b6x", 5, 0);
        fault("a51bx0", 4, 0);
        fault("s1a51b50", 7, 0);
        fault(THIRTY_NINE + "1", 39, 0);
        fault(TWENTY_SALTS.substring(0, 38) + "s!", 39, 0);

        CHECK.says("the number of signs, if more must come (no signs are a PLAN).");
        fault("", NONE, 0);
        fault("a", 1, 0);
        fault("-", 1, 0);
        fault("s", 1, 0);
        fault("a5", 2, 0);
        fault("-5", 2, 0);
        fault("a51b", 4, 0);
        fault("a51b6", 5, 0);
        fault("a51s", 4, 0);
        fault(THIRTY_NINE, NONE, 0);
        fault(THIRTY_NINE + "a", 40, 0);
        fault(THIRTY_NINE + "s", 40, 0);
        fault(TWENTY_SALTS, NONE, 0);

        CHECK.says("`int fault(int how)`: THE FAULT as a PLAN (how = 0), as a BOX (1: digits, one at least); NONE. OUTSIDE.");
        fault("5", 0, NONE);
        fault("0", 0, NONE);
        fault("0123456789", 0, NONE);
        fault("12x4", 0, 2);
        fault("12:", 0, 2);
        fault("12/", 0, 2);
        fault("12-", 0, 2);
        fault("x", 0, 0);
        fault(FORTY_DIGITS, 0, NONE);
        fault(FORTY_DIGITS.substring(0, 39) + "a", 0, 39);
        SaltIceCream x = Given.signs(new SaltIceCream(), "a5");
        CHECK.row("fault(), how", x::fault, -1, OUTSIDE, 2, 0, OUTSIDE);
        CHECK.due("fault(lowest int)", x.fault(Integer.MIN_VALUE), OUTSIDE);
        CHECK.due("fault(greatest int)", x.fault(Integer.MAX_VALUE), OUTSIDE);
        CHECK.due("told(0) behind fault()", x.told(0), 2);
    }

    private static void plan(String text, int minutes, int parts) {
        SaltIceCream x = Given.signs(new SaltIceCream(), text);
        CHECK.due("plan() of '" + text + "'", x.plan(), minutes);
        CHECK.row("PAD, MINUTES and PARTS of '" + text + "'", x::told, 0, 0, minutes, parts);
        CHECK.due("say() behind it", x.say('b'), 1);
    }

    private static void promise7Plan() {
        CHECK.says("`int plan()`: The PAD becomes THE PLAN (it is empty then): MINUTES. NO: there is a FAULT.");
        plan("", 0, 0);
        plan("a51", 1, 1);
        plan("s3", 0, 1);
        plan("a51s0-99d07", 17, 4);
        plan("a99b99c99d99a99b99c99d99a99b99c99d99-99", 117, 13);
        plan(TWENTY_SALTS, 0, 20);

        SaltIceCream x = Given.plan("a51b52");
        Given.signs(x, "a5");
        CHECK.due("plan() with a FAULT", x.plan(), NO);
        CHECK.row("the PAD and THE PLAN stay", x::told, 0, 2, 3, 2);
        x.say('7');
        CHECK.due("plan() when more has come", x.plan(), 7);
        CHECK.due("its PARTS", x.told(2), 1);
        CHECK.due("plan() of no signs", x.plan(), 0);
        CHECK.due("no PARTS", x.told(2), 0);
        CHECK.due("after(1, 0) of no PLAN", x.after(1, 0), OUTSIDE);

        SaltIceCream y = Given.plan(Given.water(600, THIRTY_NINE), "a91");
        CHECK.row("nothing of a longer PLAN ahead stays: PAD, MINUTES, PARTS", y::told, 0, 0, 1, 1);
        CHECK.due("its FROZEN", y.after(1, 5), 31);
        CHECK.due("its SALT", y.after(1, 1), 1000);
    }

    static Check all() {
        promise4Say();
        promise5Wipe();
        partsOfAPlan();
        promise6Fault();
        promise7Plan();
        return CHECK;
    }

    public static void main(String[] args) {
        all().end();
    }
}
