/** Promises 4 (say), 5 (wipe), 6 (fault), 7 (plan). */
public final class PadTest {
    private static final Check CHECK = new Check("PadTest");
    private static final int OUTSIDE = SaltIceCream.OUTSIDE, NONE = SaltIceCream.NONE, NO = SaltIceCream.NO;

    private static void promise4Say() {
        SaltIceCream x = new SaltIceCream();
        CHECK.due("say(32)", x.say(32), OUTSIDE);
        CHECK.due("say(127)", x.say(127), OUTSIDE);
        CHECK.due("say(33)", x.say(33), 1);
        CHECK.due("say(126)", x.say(126), 2);
        for (int n = 3; n <= 40; n++) {
            CHECK.due("say() for the " + n + ".", x.say('a'), n);
        }
        CHECK.due("a 41st", x.say('a'), SaltIceCream.FULL);
        CHECK.due("a wrong 41st", x.say(127), OUTSIDE);
        CHECK.due("told(0)", x.told(0), 40);
        CHECK.due("say(lowest int)", x.say(Integer.MIN_VALUE), OUTSIDE);
    }

    private static void promise5Wipe() {
        SaltIceCream x = new SaltIceCream();
        CHECK.due("wipe() of nothing", x.wipe(), 0);
        Check.saying(x, "~~~");
        CHECK.due("wipe()", x.wipe(), 3);
        CHECK.due("told(0)", x.told(0), 0);
        CHECK.due("wipe() again", x.wipe(), 0);
        CHECK.due("say() behind it", x.say('a'), 1);
        CHECK.due("fault(0) sees the new sign alone", x.fault(0), 1);
    }

    private static void fault(String text, int asPlan, int asBox) {
        SaltIceCream x = Check.saying(new SaltIceCream(), text);
        CHECK.due("fault(0) of '" + text + "'", x.fault(0), asPlan);
        CHECK.due("fault(1) of '" + text + "'", x.fault(1), asBox);
        CHECK.due("fault(2) of '" + text + "'", x.fault(2), OUTSIDE);
        CHECK.due("fault(-1) of '" + text + "'", x.fault(-1), OUTSIDE);
        CHECK.due("told(0) behind fault", x.told(0), text.length());
    }

    private static void promise6Fault() {
        fault("", NONE, 0);
        fault("a", 1, 0);
        fault("a5", 2, 0);
        fault("a51", NONE, 0);
        fault("a01", NONE, 0);
        fault("a99", NONE, 0);
        fault("a50", 2, 0);
        fault("d99", NONE, 0);
        fault("e51", 0, 0);
        fault("`51", 0, 0);
        fault("A51", 0, 0);
        fault("-51", NONE, 0);
        fault("-50", 2, 0);
        fault("aa1", 1, 0);
        fault("a:1", 1, 0);
        fault("a/1", 1, 0);
        fault("a5:", 2, 0);
        fault("a5s", 2, 0);
        fault("s", 1, 0);
        fault("s0", NONE, 0);
        fault("s9", NONE, 0);
        fault("ss", 1, 0);
        fault("s-", 1, 0);
        fault("s12", 2, 0);
        fault("s9a51s0b92", NONE, 0);
        fault("a51b", 4, 0);
        fault("a51b6", 5, 0);
        fault("a51b6x", 5, 0);
        fault("a51x", 3, 0);
        fault("5", 0, NONE);
        fault("0123456789", 0, NONE);
        fault("12x4", 0, 2);
        fault("12:", 0, 2);
        fault("12/", 0, 2);
        fault("12-", 0, 2);
        String long39 = "a11b11c11d11a11b11c11d11a11b11c11d11-11";
        fault(long39, NONE, 0);
        fault(long39 + "a", 40, 0);
        fault(long39 + "1", 39, 0);
        fault("1234567890123456789012345678901234567890", 0, NONE);
        fault("s1s1s1s1s1s1s1s1s1s1s1s1s1s1s1s1s1s1s1s1", NONE, 0);
    }

    private static void plan(String text, int minutes, int parts) {
        SaltIceCream x = Check.saying(new SaltIceCream(), text);
        CHECK.due("plan() of '" + text + "'", x.plan(), minutes);
        CHECK.due("the PAD behind it", x.told(0), 0);
        CHECK.due("told(1) of '" + text + "'", x.told(1), minutes);
        CHECK.due("told(2) of '" + text + "'", x.told(2), parts);
        CHECK.due("say() behind it", x.say('b'), 1);
    }

    private static void promise7Plan() {
        plan("", 0, 0);
        plan("a51", 1, 1);
        plan("s3", 0, 1);
        plan("a51s0-99d07", 17, 4);
        plan("a99b99c99d99a99b99c99d99a99b99c99d99-99", 117, 13);
        plan("s1s1s1s1s1s1s1s1s1s1s1s1s1s1s1s1s1s1s1s1", 0, 20);

        SaltIceCream x = Check.withPlan("a51b52");
        Check.saying(x, "a5");
        CHECK.due("plan() with a FAULT", x.plan(), NO);
        CHECK.due("the PAD stays", x.told(0), 2);
        CHECK.due("THE PLAN stays", x.told(1), 3);
        x.say('7');
        CHECK.due("plan() when more has come", x.plan(), 7);
        CHECK.due("its PARTS", x.told(2), 1);
        CHECK.due("plan() of no signs", x.plan(), 0);
        CHECK.due("no PARTS", x.told(2), 0);
        CHECK.due("after(1, 0) of no PLAN", x.after(1, 0), OUTSIDE);
    }

    public static void main(String[] args) {
        promise4Say();
        promise5Wipe();
        promise6Fault();
        promise7Plan();
        CHECK.end();
    }
}
