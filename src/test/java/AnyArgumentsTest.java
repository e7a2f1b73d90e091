/** No call throws, whatever it is given; and what is refused changes nothing. */
public final class AnyArgumentsTest {
    private static final Check CHECK = new Check("AnyArgumentsTest");
    private static final int[] ODD = {Integer.MIN_VALUE, Integer.MIN_VALUE + 1, -1000, -7, -3, -2, -1, 0, 1, 2, 3, 4, 7, 8,
        9, 10, 11, 12, 17, 20, 30, 39, 40, 41, 60, 61, 63, 64, 99, 100, 118, 120, 121, 126, 127, 300, 301, 9000, 9001,
        Integer.MAX_VALUE - 1, Integer.MAX_VALUE};
    private static final int ONE = 14, TWO = 6;

    private static long one(SaltIceCream x, int call, int a) {
        switch (call) {
            case 0: return x.say(a);
            case 1: return x.fault(a);
            case 2: return x.held(a);
            case 3: return x.order(a);
            case 4: return x.bestSalt(a);
            case 5: return x.bestPace(a);
            case 6: return x.leaveOff(a);
            case 7: return x.stored(a);
            case 8: return x.sugarFor(a);
            case 9: return x.told(a);
            case 10: return x.image(a);
            case 11: return x.restore(a);
            case 12: return x.plan() + x.box() + x.sand();
            default: return x.soft() + x.wipe();
        }
    }

    private static long two(SaltIceCream x, int call, int a, int b) {
        switch (call) {
            case 0: return x.after(a, b);
            case 1: return x.flakes(a, b);
            case 2: return x.tired(a, b);
            case 3: return x.grown(a, b);
            case 4: return x.iceAt(a, b);
            default: return a % 2 == 0 ? x.set(a, b) : x.strong(a, b);
        }
    }

    private static String all(SaltIceCream x) {
        StringBuilder text = new StringBuilder();
        for (int what = 0; what < 24; what++) {
            text.append(x.told(what)).append(' ');
        }
        return text.append(x.after(x.told(1), 5)).append(' ').append(x.stored(0)).toString();
    }

    private static SaltIceCream fresh(int kind) {
        SaltIceCream x = Check.withPlan(kind == 0 ? "" : "a99b99c99d99a99b99c99d99a99b99c99d99-99");
        if (kind == 2) {
            Check.rebox(x, "3900");
            Check.saying(x, "a5");
            x.set(2, 100);
            x.set(3, 0);
        }
        return x;
    }

    private static boolean isRefused(long answer) {
        return answer <= -1 && answer >= -5 || answer <= SaltIceCream.LOST;
    }

    public static void main(String[] args) {
        for (int kind = 0; kind < 3; kind++) {
            for (int a : ODD) {
                for (int call = 0; call < ONE; call++) {
                    SaltIceCream x = fresh(kind);
                    String ahead = all(x);
                    long answer = one(x, call, a);
                    CHECK.holds("call " + call + " (" + a + ") refused changes nothing",
                        call >= 12 || !isRefused(answer) || all(x).equals(ahead));
                }
                SaltIceCream x = fresh(kind);
                for (int b : ODD) {
                    for (int call = 0; call < TWO; call++) {
                        String ahead = all(x);
                        long answer = two(x, call, a, b);
                        boolean asks = call < 5;
                        CHECK.holds("call " + call + " (" + a + ", " + b + ") that is refused or asks changes nothing",
                            !asks && !isRefused(answer) || all(x).equals(ahead));
                    }
                }
            }
        }
        CHECK.end();
    }
}
