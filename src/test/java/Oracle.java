import java.math.BigInteger;
import java.util.ArrayList;
import java.util.List;
import java.util.TreeMap;

/**
 * The document once more, written straight down for the tests: it makes a new history of
 * everything for every call, and shares no code with the class.
 */
final class Oracle {
    private static final int NONE = -6, UNKNOWN = -1, OUTSIDE = -2, STATE = -3, FULL = -4, NO = -5;
    private static final int[][] RANGES = {{0, 9000}, {0, 3000}, {100, 2000}, {0, 600}, {0, 400}, {0, 300}, {1, 900}, {0, 9}};

    /** All but signs. */
    static final class All {
        int[] n = {3000, 1000, 600, 150, 120, 100, 300, 2};
        int[] strong = {90, 80, 70, 60};
        String plan = "";
        String box = "";

        All twin() {
            All t = new All();
            t.n = n.clone();
            t.strong = strong.clone();
            t.plan = plan;
            t.box = box;
            return t;
        }
    }

    /** How things stand AFTER some MINUTES. */
    static final class Stand {
        int ice, salt, brine, cold, warm, layer, air, churned;
        int[] tired = new int[4];
        TreeMap<Integer, Integer> flakes = new TreeMap<>();
        List<Integer> held = new ArrayList<>();
        int water, sugar;

        int frozen() {
            int sum = 0;
            for (int g : flakes.values()) {
                sum += g;
            }
            return sum;
        }

        int line() {
            return 54 * sugar / (water - frozen() - layer);
        }

        int stiff() {
            return 100 * frozen() / water + air / 5;
        }

        int coarse() {
            int great = 0;
            for (int g : flakes.tailMap(30).values()) {
                great += g;
            }
            return frozen() == 0 ? 0 : 1000 * great / frozen();
        }
    }

    private String pad = "";
    private All all = new All();
    private final All[] images = new All[2];

    static int minutesOf(String plan) {
        int sum = 0;
        for (String part : partsOf(plan)) {
            sum += part.charAt(0) == 's' ? 0 : part.charAt(2) - '0';
        }
        return sum;
    }

    static List<String> partsOf(String plan) {
        List<String> parts = new ArrayList<>();
        String rest = plan;
        while (!rest.isEmpty()) {
            int size = rest.charAt(0) == 's' ? 2 : 3;
            parts.add(rest.substring(0, size));
            rest = rest.substring(size);
        }
        return parts;
    }

    /** The MINUTES of a PLAN one by one, each with the SALT ahead of it; a last row has what is behind all. */
    private static List<int[]> minuteByMinute(String plan) {
        List<int[]> rows = new ArrayList<>();
        int salt = 0;
        for (String part : partsOf(plan)) {
            if (part.charAt(0) == 's') {
                salt += 100 * (part.charAt(1) - '0');
                continue;
            }
            for (int i = 0; i < part.charAt(2) - '0'; i++) {
                rows.add(new int[] {salt, "abcd".indexOf(part.charAt(0)), part.charAt(1) - '0'});
                salt = 0;
            }
        }
        rows.add(new int[] {salt, -1, 0});
        return rows;
    }

    static Stand stand(All all, int minutes) {
        List<int[]> rows = minuteByMinute(all.plan);
        Stand s = new Stand();
        s.ice = all.n[0];
        s.salt = all.n[1];
        s.water = all.n[2];
        s.sugar = all.n[3];
        s.warm = all.n[5];
        s.cold = s.ice == 0 ? 0 : Math.min(210, 900 * s.salt / (s.ice + s.salt));
        for (int m = 0; m < minutes; m++) {
            int[] row = rows.get(m);
            s.salt += row[0];
            minute(s, all, m, row[1], row[2]);
        }
        if (minutes == rows.size() - 1) {
            s.salt += rows.get(minutes)[0];
        }
        return s;
    }

    private static void minute(Stand s, All all, int m, int child, int wanted) {
        int stiff = s.stiff();
        int pace = 0;
        if (child >= 0 && wanted > 0) {
            if (stiff + 4 * wanted <= all.strong[child] - s.tired[child]) {
                pace = wanted;
            } else {
                s.held.add(m);
            }
        }
        if (s.ice > 0) {
            s.cold = Math.min(210, 900 * s.salt / (s.ice + s.brine + s.salt));
        } else {
            s.cold = s.cold < 5 ? 0 : s.cold - 5;
        }
        int flow = 120 * (s.warm + s.cold) / (10 + s.layer);
        if (flow < 0) {
            flow = 0;
        }
        int melts = flow / 80 + 3;
        if (melts > s.ice) {
            melts = s.ice;
        }
        s.ice -= melts;
        s.brine += melts;
        if (s.warm > -s.line()) {
            int colder = s.warm - 10 * flow / (all.n[2] + all.n[3] + all.n[4]);
            s.warm = colder < -s.line() ? -s.line() : colder;
        } else {
            for (int g = 0; g < flow / 80 && s.water - s.frozen() - s.layer > 1; g++) {
                s.layer++;
            }
            s.warm = -s.line();
        }
        int size = 10 + s.layer > 60 ? 60 : 10 + s.layer;
        for (int g = 0; g < 4 * pace && s.layer > 0; g++) {
            s.layer--;
            s.flakes.merge(size, 1, Integer::sum);
        }
        if (all.n[4] >= 50 && stiff >= 10 && s.churned < 8) {
            s.air = s.air + pace / 3 > 100 ? 100 : s.air + pace / 3;
        }
        if (pace >= 6 && stiff >= 50) {
            s.churned++;
        }
        for (int c = 0; c < 4; c++) {
            if (c == child && pace > 0) {
                s.tired[c] += pace / 2;
            } else if (s.tired[c] > 0) {
                s.tired[c]--;
            }
        }
    }

    private Stand end(All a) {
        return stand(a, minutesOf(a.plan));
    }

    int set(int which, int v) {
        if (which < 0 || which > 7 || v < RANGES[which][0] || v > RANGES[which][1]) {
            return OUTSIDE;
        }
        int was = all.n[which];
        all.n[which] = v;
        return was;
    }

    int strong(int child, int v) {
        if (child < 0 || child > 3) {
            return UNKNOWN;
        }
        if (v < 0 || v > 200) {
            return OUTSIDE;
        }
        int was = all.strong[child];
        all.strong[child] = v;
        return was;
    }

    int say(int sign) {
        if (sign < 33 || sign > 126) {
            return OUTSIDE;
        }
        if (pad.length() == 40) {
            return FULL;
        }
        pad += (char) sign;
        return pad.length();
    }

    int wipe() {
        int were = pad.length();
        pad = "";
        return were;
    }

    private static final String PARTS = "([abcd-][0-9][1-9]|s[0-9])*";

    /** A sign can stand if the text up to it can be made longer, or not, into a right one. */
    private static boolean canGoOn(String text, boolean asBox) {
        for (String more : new String[] {"", "1", "11"}) {
            if ((text + more).matches(asBox ? "[0-9]+" : PARTS)) {
                return true;
            }
        }
        return false;
    }

    int fault(int how) {
        if (how != 0 && how != 1) {
            return OUTSIDE;
        }
        for (int i = 0; i < pad.length(); i++) {
            if (!canGoOn(pad.substring(0, i + 1), how == 1)) {
                return i;
            }
        }
        return pad.matches(how == 1 ? "[0-9]+" : PARTS) ? NONE : pad.length();
    }

    int plan() {
        if (fault(0) != NONE) {
            return NO;
        }
        all.plan = pad;
        pad = "";
        return minutesOf(all.plan);
    }

    private boolean outside(int minutes) {
        return minutes < 0 || minutes > minutesOf(all.plan);
    }

    int after(int minutes, int what) {
        if (outside(minutes) || what < 0 || what > 11) {
            return OUTSIDE;
        }
        Stand s = stand(all, minutes);
        return new int[] {s.ice, s.salt, s.brine, s.cold, s.warm + 1000, s.frozen(), s.layer, s.air, s.stiff(),
            s.churned, s.coarse(), s.line()}[what];
    }

    int flakes(int minutes, int size) {
        if (outside(minutes) || size < 10 || size > 60) {
            return OUTSIDE;
        }
        return stand(all, minutes).flakes.getOrDefault(size, 0);
    }

    int tired(int child, int minutes) {
        if (child < 0 || child > 3) {
            return UNKNOWN;
        }
        return outside(minutes) ? OUTSIDE : stand(all, minutes).tired[child];
    }

    int held(int what) {
        if (what != 0 && what != 1) {
            return OUTSIDE;
        }
        List<Integer> held = end(all).held;
        return what == 0 ? held.size() : held.isEmpty() ? NONE : held.get(0);
    }

    /** Who comes in the places of a to d, the HELD, the FROZEN, of the best way. */
    private int[] best() {
        int[] best = null;
        for (String way : ways("", "0123")) {
            All other = all.twin();
            other.plan = "";
            for (String part : partsOf(all.plan)) {
                int place = "abcd".indexOf(part.charAt(0));
                other.plan += place < 0 ? part : "abcd".charAt(way.charAt(place) - '0') + part.substring(1);
            }
            Stand s = end(other);
            int[] row = {way.charAt(0) - '0', way.charAt(1) - '0', way.charAt(2) - '0', way.charAt(3) - '0',
                s.held.size(), s.frozen()};
            if (best == null || row[4] < best[4] || row[4] == best[4] && row[5] > best[5]) {
                best = row;
            }
        }
        return best;
    }

    private static List<String> ways(String begun, String left) {
        List<String> ways = new ArrayList<>();
        if (left.isEmpty()) {
            ways.add(begun);
        }
        for (char c : left.toCharArray()) {
            ways.addAll(ways(begun + c, left.replace("" + c, "")));
        }
        return ways;
    }

    int order(int place) {
        if (place < -2 || place > 3) {
            return UNKNOWN;
        }
        return best()[place >= 0 ? place : place == -1 ? 4 : 5];
    }

    /** The best of rows {choice, COARSE, FROZEN}. */
    private int choose(List<int[]> rows, int what) {
        int[] best = null;
        for (int[] row : rows) {
            boolean enough = row[2] * 1000L >= (long) all.n[6] * all.n[2];
            if (enough && (best == null || row[1] < best[1])) {
                best = row;
            }
        }
        return best == null ? NONE : best[what];
    }

    int bestSalt(int what) {
        if (what != 0 && what != 1) {
            return OUTSIDE;
        }
        List<int[]> rows = new ArrayList<>();
        for (int hundreds = 0; hundreds <= 30; hundreds++) {
            All other = all.twin();
            other.n[1] = 100 * hundreds;
            Stand s = end(other);
            rows.add(new int[] {100 * hundreds, s.coarse(), s.frozen()});
        }
        return choose(rows, what);
    }

    int bestPace(int what) {
        if (what != 0 && what != 1) {
            return OUTSIDE;
        }
        List<int[]> rows = new ArrayList<>();
        for (int pace = 1; pace <= 9; pace++) {
            All other = all.twin();
            other.plan = all.plan.replaceAll("([abcd])[0-9]", "$1" + pace);
            Stand s = end(other);
            rows.add(new int[] {pace, s.coarse(), s.frozen()});
        }
        return choose(rows, what);
    }

    int leaveOff(int stiff) {
        if (stiff < 0 || stiff > 120) {
            return OUTSIDE;
        }
        for (int m = 0; m < minutesOf(all.plan); m++) {
            if (stand(all, m + 1).stiff() >= stiff) {
                return m;
            }
        }
        return NONE;
    }

    int box() {
        if (fault(1) != NONE) {
            return NO;
        }
        all.box = pad;
        pad = "";
        return all.box.length();
    }

    private Stand boxed(int days) {
        Stand s = end(all);
        for (int day = 0; day < days; day++) {
            int swing = all.box.charAt(day % all.box.length()) - '0';
            TreeMap<Integer, Integer> grown = new TreeMap<>();
            for (int size : s.flakes.keySet()) {
                int grams = s.flakes.get(size);
                int moved = grams * swing / (10 + 5 * all.n[7]);
                grown.merge(size, grams - moved, Integer::sum);
                grown.merge(Math.min(63, size + 1 + 100 / size), moved, Integer::sum);
            }
            s.flakes = grown;
        }
        return s;
    }

    int stored(int days) {
        if (days < 0 || days > 99) {
            return OUTSIDE;
        }
        return days > 0 && all.box.isEmpty() ? STATE : boxed(days).coarse();
    }

    int grown(int days, int size) {
        if (days < 0 || days > 99 || size < 10 || size > 63) {
            return OUTSIDE;
        }
        return days > 0 && all.box.isEmpty() ? STATE : boxed(days).flakes.getOrDefault(size, 0);
    }

    int sand() {
        if (all.box.isEmpty()) {
            return STATE;
        }
        for (int day = 1; day <= 99; day++) {
            if (boxed(day).coarse() >= all.n[6]) {
                return day;
            }
        }
        return NONE;
    }

    private BigInteger[] ice(int t, int sugar) {
        BigInteger lower = BigInteger.valueOf(t).multiply(BigInteger.valueOf(all.n[2]));
        BigInteger upper = lower.subtract(BigInteger.valueOf(54L * sugar)).max(BigInteger.ZERO);
        BigInteger common = upper.gcd(lower);
        return new BigInteger[] {upper.divide(common), lower.divide(common)};
    }

    long iceAt(int t, int part) {
        if (t < 1 || t > 300 || part < 0 || part > 1) {
            return -1000000000000000002L;
        }
        return ice(t, all.n[3])[part].longValueExact();
    }

    private boolean isSoft(int t, int sugar) {
        BigInteger[] ice = ice(t, sugar);
        return ice[0].multiply(BigInteger.valueOf(1000)).compareTo(ice[1].multiply(BigInteger.valueOf(all.n[6]))) <= 0;
    }

    int soft() {
        int best = NONE;
        for (int t = 1; t <= 300; t++) {
            best = isSoft(t, all.n[3]) ? t : best;
        }
        return best;
    }

    int sugarFor(int t) {
        if (t < 1 || t > 300) {
            return OUTSIDE;
        }
        int best = NONE;
        for (int sugar = 600; sugar >= 0; sugar--) {
            best = isSoft(t, sugar) ? sugar : best;
        }
        return best;
    }

    int image(int n) {
        if (n != 0 && n != 1) {
            return OUTSIDE;
        }
        images[n] = all.twin();
        return 1;
    }

    int restore(int n) {
        if (n != 0 && n != 1) {
            return OUTSIDE;
        }
        if (images[n] == null) {
            return STATE;
        }
        all = images[n].twin();
        return 1;
    }

    int told(int what) {
        if (what == 0) {
            return pad.length();
        }
        if (what == 1) {
            return minutesOf(all.plan);
        }
        if (what == 2) {
            return partsOf(all.plan).size();
        }
        if (what == 3) {
            return all.box.length();
        }
        if (what >= 10 && what <= 17) {
            return all.n[what - 10];
        }
        return what >= 20 && what <= 23 ? all.strong[what - 20] : OUTSIDE;
    }
}
