/** Whatever a call is given, it does not throw, answers as the Oracle does, and leaves what the Oracle leaves. */
public final class AnyArgumentsTest {
    private static final Check CHECK = new Check("AnyArgumentsTest");
    private static final int[] ODD = {Integer.MIN_VALUE, Integer.MIN_VALUE + 1, -1000, -7, -3, -2, -1, 0, 1, 2, 3, 4, 7, 8,
        9, 10, 11, 12, 17, 20, 30, 39, 40, 41, 60, 61, 63, 64, 99, 100, 118, 120, 121, 126, 127, 300, 301, 9000, 9001,
        Integer.MAX_VALUE - 1, Integer.MAX_VALUE};
    private static final int ONE = 12, TWO = 7, KINDS = 3;

    private final SaltIceCream x = new SaltIceCream();
    private final Oracle o = new Oracle();

    /** Without a PLAN; with the longest; with a short one, a BOX, an IMAGE, signs. */
    private AnyArgumentsTest(int kind) {
        if (kind == 1) {
            say("a99b99c99d99a99b99c99d99a99b99c99d99-99");
            x.plan();
            o.plan();
        }
        if (kind == 2) {
            say("a91s1b92");
            x.plan();
            o.plan();
            say("3900");
            x.box();
            o.box();
            x.image(0);
            o.image(0);
            x.set(2, 100);
            o.set(2, 100);
            say("a5");
        }
    }

    private void say(String text) {
        for (char c : text.toCharArray()) {
            x.say(c);
            o.say(c);
        }
    }

    private void same(String call, long got, long want) {
        CHECK.due(call, got, want);
    }

    private void one(int call, int a) {
        String name = "call " + call + " with " + a;
        switch (call) {
            case 0: same(name, x.say(a), o.say(a)); break;
            case 1: same(name, x.fault(a), o.fault(a)); break;
            case 2: same(name, x.held(a), o.held(a)); break;
            case 3: same(name, x.order(a), o.order(a)); break;
            case 4: same(name, x.bestSalt(a), o.bestSalt(a)); break;
            case 5: same(name, x.bestPace(a), o.bestPace(a)); break;
            case 6: same(name, x.leaveOff(a), o.leaveOff(a)); break;
            case 7: same(name, x.stored(a), o.stored(a)); break;
            case 8: same(name, x.sugarFor(a), o.sugarFor(a)); break;
            case 9: same(name, x.told(a), o.told(a)); break;
            case 10: same(name, x.image(a), o.image(a)); break;
            default: same(name, x.restore(a), o.restore(a)); break;
        }
    }

    private void two(int call, int a, int b) {
        String name = "call " + call + " with " + a + " and " + b;
        switch (call) {
            case 0: same(name, x.after(a, b), o.after(a, b)); break;
            case 1: same(name, x.flakes(a, b), o.flakes(a, b)); break;
            case 2: same(name, x.tired(a, b), o.tired(a, b)); break;
            case 3: same(name, x.grown(a, b), o.grown(a, b)); break;
            case 4: same(name, x.iceAt(a, b), o.iceAt(a, b)); break;
            case 5: same(name, x.set(a, b), o.set(a, b)); break;
            default: same(name, x.strong(a, b), o.strong(a, b)); break;
        }
    }

    private void toldAlike(String when) {
        for (int what = 0; what < 24; what++) {
            same("told(" + what + ") behind " + when, x.told(what), o.told(what));
        }
        int end = o.told(1);
        same("FROZEN behind " + when, x.after(end, 5), o.after(end, 5));
        same("COARSE of a DAY behind " + when, x.stored(1), o.stored(1));
    }

    public static void main(String[] args) {
        for (int kind = 0; kind < KINDS; kind++) {
            for (int a : ODD) {
                AnyArgumentsTest single = new AnyArgumentsTest(kind);
                for (int call = 0; call < ONE; call++) {
                    single.one(call, a);
                }
                single.toldAlike("calls with " + a);
                for (int b : ODD) {
                    AnyArgumentsTest pair = new AnyArgumentsTest(kind);
                    for (int call = 0; call < TWO; call++) {
                        pair.two(call, a, b);
                    }
                    pair.toldAlike("calls with " + a + " and " + b);
                }
            }
        }
        CHECK.end();
    }
}
