/** Every call that is refused: the refusal that comes first, and that nothing is changed by it. */
public final class RefusalsTest {
    private static final Check CHECK = new Check("RefusalsTest");
    private static final int UNKNOWN = -1, OUTSIDE = -2, STATE = -3, FULL = -4, NO = -5;
    private static final long LOST_OUTSIDE = -1000000000000000002L;

    private interface Call {
        long on(SaltIceCream x);
    }

    /** It has all that can be changed: a PLAN of 11 MINUTES, a BOX, two IMAGES, and signs that are neither PLAN nor BOX. */
    private static SaltIceCream busy() {
        SaltIceCream x = Given.box(Given.plan("a59s1b52"), "39");
        x.set(Given.ICE, 2000);
        x.image(0);
        x.set(Given.ICE, 1000);
        x.image(1);
        x.set(Given.ICE, 1500);
        x.set(Given.WATER, 300);
        return Given.signs(x, "a5");
    }

    private static void refused(String name, Call call, long refusal) {
        SaltIceCream x = busy();
        String ahead = Given.seen(x);
        CHECK.due(name, call.on(x), refusal);
        CHECK.holds(name + " changes nothing", Given.seen(x).equals(ahead));
        x.say('1');
        CHECK.due(name + " leaves the signs", x.plan(), 1);
        CHECK.due(name + " leaves IMAGE 0", x.restore(0), 1);
        CHECK.due(name + " leaves IMAGE 0", x.told(10), 2000);
        CHECK.due(name + " leaves IMAGE 1", x.restore(1), 1);
        CHECK.due(name + " leaves IMAGE 1", x.told(10), 1000);
    }

    /** On an object that is not as new, but has no BOX and no IMAGE. */
    private static void refusedByBare(String name, Call call, long refusal) {
        SaltIceCream x = Given.plan("a59s1b52");
        x.set(Given.ICE, 1500);
        x.strong(1, 50);
        Given.signs(x, "a5");
        String ahead = Given.seen(x);
        CHECK.due(name + " without a BOX, an IMAGE", call.on(x), refusal);
        CHECK.holds(name + " changes nothing", Given.seen(x).equals(ahead));
        CHECK.due(name + " makes no IMAGE 0", x.restore(0), STATE);
        CHECK.due(name + " makes no IMAGE 1", x.restore(1), STATE);
        CHECK.holds(name + " changes nothing", Given.seen(x).equals(ahead));
    }

    private static void whatThereIsAndPlans() {
        refused("set(-1, 5)", x -> x.set(-1, 5), OUTSIDE);
        refused("set(8, 5)", x -> x.set(8, 5), OUTSIDE);
        refused("set(0, 9001)", x -> x.set(0, 9001), OUTSIDE);
        refused("set(6, 0)", x -> x.set(6, 0), OUTSIDE);
        refused("strong(-1, 5)", x -> x.strong(-1, 5), UNKNOWN);
        refused("strong(4, 5)", x -> x.strong(4, 5), UNKNOWN);
        refused("strong(0, -1)", x -> x.strong(0, -1), OUTSIDE);
        refused("strong(3, 201)", x -> x.strong(3, 201), OUTSIDE);
        refused("say(32)", x -> x.say(32), OUTSIDE);
        refused("say(127)", x -> x.say(127), OUTSIDE);
        refused("fault(-1)", x -> x.fault(-1), OUTSIDE);
        refused("fault(2)", x -> x.fault(2), OUTSIDE);
        refused("plan()", x -> x.plan(), NO);
        refused("after(-1, 0)", x -> x.after(-1, 0), OUTSIDE);
        refused("after(12, 0)", x -> x.after(12, 0), OUTSIDE);
        refused("after(0, 12)", x -> x.after(0, 12), OUTSIDE);
        refused("flakes(12, 10)", x -> x.flakes(12, 10), OUTSIDE);
        refused("flakes(0, 61)", x -> x.flakes(0, 61), OUTSIDE);
        refused("tired(4, 0)", x -> x.tired(4, 0), UNKNOWN);
        refused("tired(0, 12)", x -> x.tired(0, 12), OUTSIDE);
        refused("held(2)", x -> x.held(2), OUTSIDE);
    }

    private static void bestAndBoxes() {
        refused("order(-3)", x -> x.order(-3), UNKNOWN);
        refused("order(4)", x -> x.order(4), UNKNOWN);
        refused("bestSalt(2)", x -> x.bestSalt(2), OUTSIDE);
        refused("bestPace(2)", x -> x.bestPace(2), OUTSIDE);
        refused("leaveOff(121)", x -> x.leaveOff(121), OUTSIDE);
        refused("box()", x -> x.box(), NO);
        refused("stored(100)", x -> x.stored(100), OUTSIDE);
        refused("grown(100, 10)", x -> x.grown(100, 10), OUTSIDE);
        refused("grown(0, 64)", x -> x.grown(0, 64), OUTSIDE);
        refused("iceAt(301, 0)", x -> x.iceAt(301, 0), LOST_OUTSIDE);
        refused("iceAt(1, 2)", x -> x.iceAt(1, 2), LOST_OUTSIDE);
        refused("sugarFor(301)", x -> x.sugarFor(301), OUTSIDE);
        refused("image(-1)", x -> x.image(-1), OUTSIDE);
        refused("image(2)", x -> x.image(2), OUTSIDE);
        refused("restore(-1)", x -> x.restore(-1), OUTSIDE);
        refused("restore(2)", x -> x.restore(2), OUTSIDE);
        refused("told(4)", x -> x.told(4), OUTSIDE);
        refusedByBare("box()", x -> x.box(), NO);
        refusedByBare("stored(1)", x -> x.stored(1), STATE);
        refusedByBare("grown(1, 10)", x -> x.grown(1, 10), STATE);
        refusedByBare("sand()", x -> x.sand(), STATE);
        refusedByBare("restore(0)", x -> x.restore(0), STATE);
        refusedByBare("restore(1)", x -> x.restore(1), STATE);
        refusedByBare("image(2)", x -> x.image(2), OUTSIDE);
    }

    private static void fullPad() {
        SaltIceCream x = Given.signs(busy(), "s1s1s1s1s1s1s1s1s1s1s1s1s1s1s1s1s1s1s1s1");
        String ahead = Given.seen(x);
        CHECK.due("say() on a full PAD", x.say('a'), FULL);
        CHECK.holds("say() on a full PAD changes nothing", Given.seen(x).equals(ahead));
        CHECK.due("plan() of its 40 signs", x.plan(), 0);
        CHECK.due("SALT by them", x.after(0, 1), 3000);
    }

    private static void firstOfSeveral() {
        refused("strong(4, 201)", x -> x.strong(4, 201), UNKNOWN);
        refused("strong(-1, -1)", x -> x.strong(-1, -1), UNKNOWN);
        refused("tired(4, 12)", x -> x.tired(4, 12), UNKNOWN);
        refused("tired(-1, -1)", x -> x.tired(-1, -1), UNKNOWN);
        refusedByBare("stored(100)", x -> x.stored(100), OUTSIDE);
        refusedByBare("stored(-1)", x -> x.stored(-1), OUTSIDE);
        refusedByBare("grown(1, 9)", x -> x.grown(1, 9), OUTSIDE);
        refusedByBare("grown(100, 10)", x -> x.grown(100, 10), OUTSIDE);
        refusedByBare("restore(2)", x -> x.restore(2), OUTSIDE);
        refusedByBare("restore(-1)", x -> x.restore(-1), OUTSIDE);
        SaltIceCream full = Given.signs(new SaltIceCream(), "s1s1s1s1s1s1s1s1s1s1s1s1s1s1s1s1s1s1s1s1");
        CHECK.due("say(127) on a full PAD", full.say(127), OUTSIDE);
        CHECK.due("say(126) on a full PAD", full.say(126), FULL);
    }

    static Check all() {
        CHECK.says("Calls that are refused answer, the first of these that fits: UNKNOWN -1 (there is no such CHILD), "
            + "OUTSIDE -2 (another number is not as told), STATE -3 (as told), FULL -4, NO -5 (as told).");
        firstOfSeveral();
        CHECK.says("They change nothing.");
        whatThereIsAndPlans();
        bestAndBoxes();
        fullPad();
        return CHECK;
    }

    public static void main(String[] args) {
        all().end();
    }
}
