/** Objects to ask: what tests of several promises begin with. */
final class Given {
    static final int ICE = 0, SALT = 1, WATER = 2, SUGAR = 3, FAT = 4, WARM = 5, SHARE = 6, STUFF = 7;

    private Given() {
    }

    static SaltIceCream signs(SaltIceCream x, String text) {
        x.wipe();
        for (char c : text.toCharArray()) {
            x.say(c);
        }
        return x;
    }

    static SaltIceCream plan(SaltIceCream x, String text) {
        signs(x, text).plan();
        return x;
    }

    static SaltIceCream plan(String text) {
        return plan(new SaltIceCream(), text);
    }

    static SaltIceCream box(SaltIceCream x, String text) {
        signs(x, text).box();
        return x;
    }

    static SaltIceCream pail(SaltIceCream x, int ice, int salt) {
        x.set(ICE, ice);
        x.set(SALT, salt);
        return x;
    }

    static SaltIceCream strong(SaltIceCream x, int a, int b, int c, int d) {
        x.strong(0, a);
        x.strong(1, b);
        x.strong(2, c);
        x.strong(3, d);
        return x;
    }

    /** Water alone, at 0 degrees: it freezes at once, and is always at 0. 31 grams freeze in a MINUTE on a bare wall. */
    static SaltIceCream water(int grams, String text) {
        SaltIceCream x = plan(text);
        x.set(WATER, grams);
        x.set(SUGAR, 0);
        x.set(WARM, 0);
        return x;
    }

    /** 600 grams of such water in a pail of 900 grams, which is as COLD as it has grams of SALT. */
    static SaltIceCream waterByCold(int cold, String text) {
        return pail(water(600, text), 900 - cold, cold);
    }

    /** 19 grams of FLAKES of SIZE 29, and no STUFF. */
    static SaltIceCream nineteen() {
        SaltIceCream x = pail(water(600, "a91"), 1000, 174);
        x.set(STUFF, 0);
        return x;
    }

    /** What there is to be seen of an object, in 40 calls; nothing of it is changed. */
    static String seen(SaltIceCream x) {
        StringBuilder text = new StringBuilder();
        for (int what = 0; what < 24; what++) {
            boolean is = what < 4 || what >= 10 && what < 18 || what >= 20;
            text.append(is ? x.told(what) + " " : "");
        }
        int end = x.told(1);
        text.append("fault ").append(x.fault(0)).append(' ').append(x.fault(1)).append(" after ");
        for (int what = 0; what < 12; what++) {
            text.append(x.after(end, what)).append(' ');
        }
        text.append("tired ");
        for (int child = 0; child < 4; child++) {
            text.append(x.tired(child, end)).append(' ');
        }
        text.append("held ").append(x.held(0)).append(' ').append(x.held(1));
        text.append(" box ").append(x.stored(7)).append(' ').append(x.grown(7, 42)).append(' ').append(x.sand());
        return text.append(" soft ").append(x.soft()).toString();
    }
}
