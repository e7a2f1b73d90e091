import java.util.Random;

/** Many runs of calls, from fixed seeds, each answer against that of the Oracle. */
public final class OracleTest {
    private static final int[] LEAST = {0, 0, 100, 0, 0, 0, 1, 0};
    private static final int[] MOST = {9000, 3000, 2000, 600, 400, 300, 900, 9};
    private static final int RUNS = 400, CALLS = 512;

    private final Random random;
    private final int seed;
    private final SaltIceCream x = new SaltIceCream();
    private final Oracle o = new Oracle();
    private int calls = 0;
    private static final Check TOTAL = new Check("OracleTest");

    private OracleTest(int seed) {
        this.seed = seed;
        this.random = new Random(seed);
    }

    private void same(String call, long got, long want) {
        calls++;
        TOTAL.due("run " + seed + ", call " + calls + ", " + call, got, want);
    }

    private int from(int least, int most) {
        return least + random.nextInt(most - least + 1);
    }

    /** Mostly inside, often at an edge, at times just outside. */
    private int near(int least, int most) {
        switch (random.nextInt(12)) {
            case 0: return least;
            case 1: return most;
            case 2: return random.nextInt(4) == 0 ? least - 1 : least;
            case 3: return random.nextInt(4) == 0 ? most + 1 : most;
            default: return from(least, most);
        }
    }

    private void set(int which, int v) {
        same("set(" + which + ", " + v + ")", x.set(which, v), o.set(which, v));
    }

    private void say(String text) {
        same("wipe()", x.wipe(), o.wipe());
        for (char c : text.toCharArray()) {
            same("say(" + (int) c + ")", x.say(c), o.say(c));
        }
    }

    private String planText() {
        StringBuilder text = new StringBuilder();
        int parts = from(0, 14);
        int usual = from(1, 9);
        for (int i = 0; i < parts; i++) {
            if (random.nextInt(7) == 0) {
                text.append('s').append(from(0, 9));
            } else {
                text.append("aabbccdd-".charAt(random.nextInt(9)));
                text.append(random.nextInt(3) == 0 ? from(0, 9) : usual);
                text.append(random.nextInt(3) == 0 ? from(1, 9) : 9);
            }
        }
        return text.length() > 40 ? text.substring(0, 40) : text.toString();
    }

    private void spoil() {
        String signs = "abcd-s019e ~!x";
        for (int n = from(1, 6); n > 0; n--) {
            char c = signs.charAt(random.nextInt(signs.length()));
            same("say(" + (int) c + ")", x.say(c), o.say(c));
        }
    }

    private void change() {
        switch (random.nextInt(10)) {
            case 0:
            case 1: {
                int which = from(0, 7);
                set(which, near(LEAST[which], MOST[which]));
                break;
            }
            case 2: {
                int child = near(0, 3);
                int v = near(0, 200);
                same("strong(" + child + ", " + v + ")", x.strong(child, v), o.strong(child, v));
                break;
            }
            case 3:
            case 4:
            case 5: {
                say(planText());
                if (random.nextInt(5) == 0) {
                    spoil();
                }
                same("fault(0)", x.fault(0), o.fault(0));
                same("plan()", x.plan(), o.plan());
                break;
            }
            case 6: {
                StringBuilder text = new StringBuilder();
                for (int n = from(0, random.nextInt(3) == 0 ? 42 : 5); n > 0; n--) {
                    text.append(from(0, 9));
                }
                say(text.toString());
                if (random.nextInt(6) == 0) {
                    spoil();
                }
                same("fault(1)", x.fault(1), o.fault(1));
                same("box()", x.box(), o.box());
                break;
            }
            case 7: {
                int n = near(0, 1);
                same("image(" + n + ")", x.image(n), o.image(n));
                break;
            }
            case 8: {
                int n = near(0, 1);
                same("restore(" + n + ")", x.restore(n), o.restore(n));
                break;
            }
            default:
                // a frozen cream with strong children: what a default recipe seldom comes to
                set(2, from(100, 300));
                set(3, from(0, 60));
                set(1, from(100, 3000));
                same("strong", x.strong(from(0, 0), 200), o.strong(0, 200));
                same("strong", x.strong(1, 200), o.strong(1, 200));
                break;
        }
    }

    private void ask() {
        int minutes = near(0, o.told(1));
        int days = near(0, 99);
        int two = near(0, 1);
        switch (random.nextInt(16)) {
            case 0:
            case 1:
            case 2: {
                for (int what = -1; what <= 12; what++) {
                    same("after(" + minutes + ", " + what + ")", x.after(minutes, what), o.after(minutes, what));
                }
                break;
            }
            case 3: {
                for (int size = 9; size <= 61; size++) {
                    same("flakes(" + minutes + ", " + size + ")", x.flakes(minutes, size), o.flakes(minutes, size));
                }
                break;
            }
            case 4: {
                for (int child = -1; child <= 4; child++) {
                    same("tired(" + child + ", " + minutes + ")", x.tired(child, minutes), o.tired(child, minutes));
                }
                break;
            }
            case 5:
                same("held(" + two + ")", x.held(two), o.held(two));
                break;
            case 6: {
                int place = near(-2, 3);
                same("order(" + place + ")", x.order(place), o.order(place));
                break;
            }
            case 7:
                same("bestSalt(" + two + ")", x.bestSalt(two), o.bestSalt(two));
                break;
            case 8:
                same("bestPace(" + two + ")", x.bestPace(two), o.bestPace(two));
                break;
            case 9: {
                int stiff = near(0, random.nextBoolean() ? 120 : 40);
                same("leaveOff(" + stiff + ")", x.leaveOff(stiff), o.leaveOff(stiff));
                break;
            }
            case 10:
                same("stored(" + days + ")", x.stored(days), o.stored(days));
                break;
            case 11: {
                int size = near(10, 63);
                same("grown(" + days + ", " + size + ")", x.grown(days, size), o.grown(days, size));
                break;
            }
            case 12:
                same("sand()", x.sand(), o.sand());
                break;
            case 13: {
                int t = near(1, 300);
                same("iceAt(" + t + ", " + two + ")", x.iceAt(t, two), o.iceAt(t, two));
                break;
            }
            case 14: {
                int t = near(1, random.nextBoolean() ? 300 : 30);
                same("soft()", x.soft(), o.soft());
                same("sugarFor(" + t + ")", x.sugarFor(t), o.sugarFor(t));
                break;
            }
            default: {
                for (int what = -1; what <= 24; what++) {
                    same("told(" + what + ")", x.told(what), o.told(what));
                }
                break;
            }
        }
    }

    public static void main(String[] args) {
        int runs = args.length > 0 ? Integer.parseInt(args[0]) : RUNS;
        for (int seed = 0; seed < runs; seed++) {
            OracleTest run = new OracleTest(seed);
            while (run.calls < CALLS - 60) {
                if (run.random.nextInt(3) == 0) {
                    run.change();
                } else {
                    run.ask();
                }
            }
        }
        TOTAL.end();
    }
}
