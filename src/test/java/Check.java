/** Counts answers that are not as due; what all tests share. */
final class Check {
    private final String name;
    private int asked = 0;
    private int wrong = 0;

    Check(String name) {
        this.name = name;
    }

    void due(String call, long got, long want) {
        asked++;
        if (got != want) {
            wrong++;
            System.out.println(name + ": " + call + " answered " + got + ", due is " + want);
        }
    }

    void holds(String what, boolean is) {
        due(what, is ? 1 : 0, 1);
    }

    /** Answers of one kind, for an argument that counts up from the first. */
    interface Asked {
        long of(int n);
    }

    void row(String call, Asked asked, int first, long... wants) {
        for (int i = 0; i < wants.length; i++) {
            due(call + " at " + (first + i), asked.of(first + i), wants[i]);
        }
    }

    void end() {
        System.out.println(name + ": " + asked + " answers, " + wrong + " not as due");
        if (wrong != 0 || asked == 0) {
            System.exit(1);
        }
    }

    static SaltIceCream saying(SaltIceCream x, String text) {
        x.wipe();
        for (char c : text.toCharArray()) {
            x.say(c);
        }
        return x;
    }

    static SaltIceCream withPlan(String text) {
        SaltIceCream x = new SaltIceCream();
        saying(x, text).plan();
        return x;
    }

    static SaltIceCream replan(SaltIceCream x, String text) {
        saying(x, text).plan();
        return x;
    }

    static SaltIceCream rebox(SaltIceCream x, String text) {
        saying(x, text).box();
        return x;
    }
}
