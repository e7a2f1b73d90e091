/**
 * Cream in salt ice: a pail, a can, cream, four children who turn, plans as small texts,
 * what comes of them, the best of them, days in a box, and softness.
 *
 * Words in capitals are those of the document. Every call works on rows that the
 * constructor made, so that no call makes an object.
 */
public final class SaltIceCream {
    public static final int NONE = -6, UNKNOWN = -1, OUTSIDE = -2, STATE = -3, FULL = -4, NO = -5;
    public static final long LOST = -1000000000000000000L;

    private static final int ICE = 0, SALT = 1, WATER = 2, SUGAR = 3, FAT = 4, WARM = 5, SHARE = 6, STUFF = 7;
    private static final int NUMBERS = 8;
    private static final int[] LEAST = {0, 0, 100, 0, 0, 0, 1, 0};
    private static final int[] MOST = {9000, 3000, 2000, 600, 400, 300, 900, 9};
    private static final int[] AT_FIRST = {3000, 1000, 600, 150, 120, 100, 300, 2};

    private static final int CHILDREN = 4, STRONG_MOST = 200;
    private static final int[] STRONG_AT_FIRST = {90, 80, 70, 60};
    /** Who stands in a PART, beside the CHILDREN 0 to 3. */
    private static final int NOBODY = 4, SALTING = 5;

    private static final int SIGN_LEAST = 33, SIGN_MOST = 126, SIGNS_MOST = 40;
    /** What 40 signs can say: PARTS of SALT have two signs; those with MINUTES three, and 9 of these at most. */
    private static final int PARTS_MOST = 20, MINUTES_MOST = 117;

    private static final int SIZE_LEAST = 10, SCRAPED_MOST = 60, SIZE_MOST = 63, COARSE_LEAST = 30;
    private static final int PACE_MOST = 9, DAYS_MOST = 99, STIFF_ASKED_MOST = 120, TENTHS_MOST = 300;

    /** A WAY is who comes in the places of a, b, c, d, as four digits of base 4, that of a first. */
    private static final int WAYS = 256, WAY_AS_TOLD = 27;
    private static final int PACE_AS_TOLD = 0;
    /** Above every COARSE, so that it is never the least. */
    private static final int TOO_LITTLE_FROZEN = 1001;

    private final Signs pad = new Signs();
    private final Recipe now = new Recipe();
    private final Recipe imageZero = new Recipe();
    private final Recipe imageOne = new Recipe();
    private final Run run = new Run();

    public SaltIceCream() {
    }

    // ---- 1 what there is

    public int set(int which, int v) {
        if (which < 0 || which >= NUMBERS) {
            return OUTSIDE;
        }
        if (v < at(LEAST, which) || v > at(MOST, which)) {
            return OUTSIDE;
        }
        int was = now.number(which);
        put(now.numbers, which, v);
        return was;
    }

    public int strong(int child, int v) {
        if (!isChild(child)) {
            return UNKNOWN;
        }
        if (v < 0 || v > STRONG_MOST) {
            return OUTSIDE;
        }
        int was = at(now.strengths, child);
        put(now.strengths, child, v);
        return was;
    }

    // ---- 2 plans

    public int say(int sign) {
        if (sign < SIGN_LEAST || sign > SIGN_MOST) {
            return OUTSIDE;
        }
        if (pad.count >= SIGNS_MOST) {
            return FULL;
        }
        pad.add(sign);
        return pad.count;
    }

    public int wipe() {
        int were = pad.count;
        pad.clear();
        return were;
    }

    public int fault(int how) {
        if (how == 0) {
            return pad.faultAsPlan();
        }
        if (how == 1) {
            return pad.faultAsBox();
        }
        return OUTSIDE;
    }

    public int plan() {
        if (pad.faultAsPlan() != NONE) {
            return NO;
        }
        now.steps.read(pad);
        pad.clear();
        return now.steps.minutes;
    }

    public int after(int minutes, int what) {
        if (!isOfPlan(minutes) || what < 0 || what > 11) {
            return OUTSIDE;
        }
        runFor(minutes);
        return run.number(what);
    }

    public int flakes(int minutes, int size) {
        if (!isOfPlan(minutes) || size < SIZE_LEAST || size > SCRAPED_MOST) {
            return OUTSIDE;
        }
        runFor(minutes);
        return run.cream.scraped.gramsOf(size);
    }

    public int tired(int child, int minutes) {
        if (!isChild(child)) {
            return UNKNOWN;
        }
        if (!isOfPlan(minutes)) {
            return OUTSIDE;
        }
        runFor(minutes);
        return run.crew.weariness(child);
    }

    public int held(int what) {
        if (what < 0 || what > 1) {
            return OUTSIDE;
        }
        runAsTold();
        return what == 0 ? run.heldMinutes : run.firstHeld;
    }

    // ---- 3 the best

    public int order(int place) {
        if (place < -2 || place >= CHILDREN) {
            return UNKNOWN;
        }
        int way = bestWay();
        if (place >= 0) {
            return childInPlace(way, place);
        }
        run.go(now, now.steps.minutes, now.number(SALT), way, PACE_AS_TOLD);
        return place == -1 ? run.heldMinutes : run.cream.scraped.total;
    }

    public int bestSalt(int what) {
        if (what < 0 || what > 1) {
            return OUTSIDE;
        }
        int salt = leastCoarseSalt();
        if (salt == NONE || what == 0) {
            return salt;
        }
        run.go(now, now.steps.minutes, salt, WAY_AS_TOLD, PACE_AS_TOLD);
        return run.cream.scraped.coarse();
    }

    public int bestPace(int what) {
        if (what < 0 || what > 1) {
            return OUTSIDE;
        }
        int pace = leastCoarsePace();
        if (pace == NONE || what == 0) {
            return pace;
        }
        run.go(now, now.steps.minutes, now.number(SALT), WAY_AS_TOLD, pace);
        return run.cream.scraped.coarse();
    }

    public int leaveOff(int stiff) {
        if (stiff < 0 || stiff > STIFF_ASKED_MOST) {
            return OUTSIDE;
        }
        runAsTold();
        for (int minute = 0; minute < run.minutes; minute++) {
            if (at(run.stiffBehind, minute) >= stiff) {
                return minute;
            }
        }
        return NONE;
    }

    // ---- 4 boxes, softness

    public int box() {
        if (pad.faultAsBox() != NONE) {
            return NO;
        }
        now.swings.copyFrom(pad);
        pad.clear();
        return now.swings.count;
    }

    public int stored(int days) {
        if (days < 0 || days > DAYS_MOST) {
            return OUTSIDE;
        }
        if (days > 0 && now.swings.count == 0) {
            return STATE;
        }
        runAsTold();
        growFor(days);
        return run.cream.scraped.coarse();
    }

    public int grown(int days, int size) {
        if (days < 0 || days > DAYS_MOST || size < SIZE_LEAST || size > SIZE_MOST) {
            return OUTSIDE;
        }
        if (days > 0 && now.swings.count == 0) {
            return STATE;
        }
        runAsTold();
        growFor(days);
        return run.cream.scraped.gramsOf(size);
    }

    public int sand() {
        if (now.swings.count == 0) {
            return STATE;
        }
        runAsTold();
        for (int day = 1; day <= DAYS_MOST; day++) {
            growOn(day);
            if (run.cream.scraped.coarse() >= now.number(SHARE)) {
                return day;
            }
        }
        return NONE;
    }

    public long iceAt(int t, int part) {
        if (!isTenths(t) || part < 0 || part > 1) {
            return LOST + OUTSIDE;
        }
        long lower = (long) t * now.number(WATER);
        long upper = Math.max(0L, lower - 54L * now.number(SUGAR));
        long common = commonDivisor(upper, lower);
        if (common == 0) {
            return 0;
        }
        return (part == 0 ? upper : lower) / common;
    }

    public int soft() {
        for (int t = TENTHS_MOST; t >= 1; t--) {
            if (isSoft(now.number(SUGAR), t)) {
                return t;
            }
        }
        return NONE;
    }

    public int sugarFor(int t) {
        if (!isTenths(t)) {
            return OUTSIDE;
        }
        for (int sugar = at(LEAST, SUGAR); sugar <= at(MOST, SUGAR); sugar++) {
            if (isSoft(sugar, t)) {
                return sugar;
            }
        }
        return NONE;
    }

    public int image(int n) {
        if (n < 0 || n > 1) {
            return OUTSIDE;
        }
        Recipe kept = n == 0 ? imageZero : imageOne;
        kept.copyFrom(now);
        kept.holds = true;
        return 1;
    }

    public int restore(int n) {
        if (n < 0 || n > 1) {
            return OUTSIDE;
        }
        Recipe kept = n == 0 ? imageZero : imageOne;
        if (!kept.holds) {
            return STATE;
        }
        now.copyFrom(kept);
        return 1;
    }

    public int told(int what) {
        if (what >= 10 && what < 10 + NUMBERS) {
            return now.number(what - 10);
        }
        if (what >= 20 && what < 20 + CHILDREN) {
            return at(now.strengths, what - 20);
        }
        switch (what) {
            case 0: return pad.count;
            case 1: return now.steps.minutes;
            case 2: return now.steps.parts;
            case 3: return now.swings.count;
            default: return OUTSIDE;
        }
    }

    // ---- what the calls share

    private static boolean isChild(int child) {
        return child >= 0 && child < CHILDREN;
    }

    private boolean isOfPlan(int minutes) {
        return minutes >= 0 && minutes <= now.steps.minutes;
    }

    private static boolean isTenths(int t) {
        return t >= 1 && t <= TENTHS_MOST;
    }

    private void runFor(int minutes) {
        run.go(now, minutes, now.number(SALT), WAY_AS_TOLD, PACE_AS_TOLD);
    }

    private void runAsTold() {
        run.go(now, now.steps.minutes, now.number(SALT), WAY_AS_TOLD, PACE_AS_TOLD);
    }

    /** The WAYS come in the order of who is in the place of a, b, ..: the first of equals stays. */
    private int bestWay() {
        int best = WAY_AS_TOLD;
        int fewestHeld = MINUTES_MOST + 1;
        int mostFrozen = 0;
        for (int way = 0; way < WAYS; way++) {
            if (hasEachChild(way)) {
                run.go(now, now.steps.minutes, now.number(SALT), way, PACE_AS_TOLD);
                int heldNow = run.heldMinutes;
                int frozenNow = run.cream.scraped.total;
                if (heldNow < fewestHeld || (heldNow == fewestHeld && frozenNow > mostFrozen)) {
                    best = way;
                    fewestHeld = heldNow;
                    mostFrozen = frozenNow;
                }
            }
        }
        return best;
    }

    private static boolean hasEachChild(int way) {
        int met = 0;
        for (int place = 0; place < CHILDREN; place++) {
            met |= 1 << childInPlace(way, place);
        }
        return met == 15;
    }

    private static int childInPlace(int way, int place) {
        return (way >> (2 * (CHILDREN - 1 - place))) & 3;
    }

    private int leastCoarseSalt() {
        int best = NONE;
        int leastCoarse = TOO_LITTLE_FROZEN;
        for (int salt = at(LEAST, SALT); salt <= at(MOST, SALT); salt += 100) {
            run.go(now, now.steps.minutes, salt, WAY_AS_TOLD, PACE_AS_TOLD);
            int coarse = coarseOfEnough();
            if (coarse < leastCoarse) {
                best = salt;
                leastCoarse = coarse;
            }
        }
        return best;
    }

    private int leastCoarsePace() {
        int best = NONE;
        int leastCoarse = TOO_LITTLE_FROZEN;
        for (int pace = 1; pace <= PACE_MOST; pace++) {
            run.go(now, now.steps.minutes, now.number(SALT), WAY_AS_TOLD, pace);
            int coarse = coarseOfEnough();
            if (coarse < leastCoarse) {
                best = pace;
                leastCoarse = coarse;
            }
        }
        return best;
    }

    private int coarseOfEnough() {
        boolean enough = 1000 * run.cream.scraped.total >= now.number(SHARE) * now.number(WATER);
        return enough ? run.cream.scraped.coarse() : TOO_LITTLE_FROZEN;
    }

    private void growFor(int days) {
        for (int day = 1; day <= days; day++) {
            growOn(day);
        }
    }

    private void growOn(int day) {
        if (now.swings.count > 0) {
            int swing = now.swings.digitAt((day - 1) % now.swings.count);
            run.cream.scraped.grow(swing, now.number(STUFF));
        }
    }

    /** 1 - 54 SUGAR / (t WATER) against SHARE / 1000, both times 1000 t WATER (far below 2^31). */
    private boolean isSoft(int sugar, int t) {
        int whole = t * now.number(WATER);
        return 1000 * (whole - 54 * sugar) <= now.number(SHARE) * whole;
    }

    /** Euclid's way; numbers up to 600,000 need no more than some thirty rounds. */
    private static long commonDivisor(long upper, long lower) {
        long a = lower;
        long b = upper;
        for (int round = 0; round < 64 && b != 0; round++) {
            long rest = a % b;
            a = b;
            b = rest;
        }
        return a;
    }

    /** Cut towards 0. By 0 it is 0: only COARSE of no FLAKES is asked for so, and that is 0. */
    private static int quotient(int upper, int lower) {
        return lower == 0 ? 0 : upper / lower;
    }

    private static int at(int[] row, int i) {
        return i >= 0 && i < row.length ? row[i] : 0;
    }

    private static void put(int[] row, int i, int v) {
        if (i >= 0 && i < row.length) {
            row[i] = v;
        }
    }

    private static void copyRow(int[] from, int[] to) {
        for (int i = 0; i < from.length && i < to.length; i++) {
            to[i] = from[i];
        }
    }

    /** A row of signs: the PAD, or the digits of a BOX. */
    private static final class Signs {
        private final int[] codes = new int[SIGNS_MOST];
        private int count = 0;

        void add(int code) {
            put(codes, count, code);
            count++;
        }

        void clear() {
            count = 0;
        }

        int codeAt(int i) {
            return at(codes, i);
        }

        int digitAt(int i) {
            return codeAt(i) - '0';
        }

        boolean isDigitAt(int i, int least) {
            return digitAt(i) >= least && digitAt(i) <= 9;
        }

        void copyFrom(Signs other) {
            copyRow(other.codes, codes);
            count = other.count;
        }

        int faultAsBox() {
            for (int i = 0; i < count; i++) {
                if (!isDigitAt(i, 0)) {
                    return i;
                }
            }
            return count == 0 ? 0 : NONE;
        }

        int faultAsPlan() {
            int due = 0;
            for (int i = 0; i < count; i++) {
                due = dueBehind(due, i);
                if (due == NONE) {
                    return i;
                }
            }
            return due == 0 ? NONE : count;
        }

        /** What is due: 0 a PART's begin, 1 a PACE, 2 a number of MINUTES, 3 a SALT; NONE: it can not stand. */
        private int dueBehind(int due, int i) {
            switch (due) {
                case 0: return dueBehindBegin(codeAt(i));
                case 1: return isDigitAt(i, 0) ? 2 : NONE;
                case 2: return isDigitAt(i, 1) ? 0 : NONE;
                default: return isDigitAt(i, 0) ? 0 : NONE;
            }
        }

        private static int dueBehindBegin(int code) {
            if (code == 's') {
                return 3;
            }
            return code == '-' || (code >= 'a' && code <= 'd') ? 1 : NONE;
        }
    }

    /** THE PLAN, PART by PART. */
    private static final class Steps {
        private final int[] who = new int[PARTS_MOST];
        /** The PACE; where it is SALTING, hundreds of grams. */
        private final int[] amount = new int[PARTS_MOST];
        private final int[] length = new int[PARTS_MOST];
        private int parts = 0;
        private int minutes = 0;

        /** Reads signs that have no FAULT. */
        void read(Signs signs) {
            parts = 0;
            minutes = 0;
            int i = 0;
            while (i < signs.count) {
                int code = signs.codeAt(i);
                if (code == 's') {
                    addPart(SALTING, signs.digitAt(i + 1), 0);
                    i += 2;
                } else {
                    addPart(code == '-' ? NOBODY : code - 'a', signs.digitAt(i + 1), signs.digitAt(i + 2));
                    i += 3;
                }
            }
        }

        private void addPart(int child, int paceOrSalt, int itsMinutes) {
            put(who, parts, child);
            put(amount, parts, paceOrSalt);
            put(length, parts, itsMinutes);
            parts++;
            minutes += itsMinutes;
        }

        void copyFrom(Steps other) {
            copyRow(other.who, who);
            copyRow(other.amount, amount);
            copyRow(other.length, length);
            parts = other.parts;
            minutes = other.minutes;
        }
    }

    /** All that an IMAGE keeps: what there is, THE PLAN, the BOX. */
    private static final class Recipe {
        /** As an IMAGE: whether anything was kept in it. */
        private boolean holds = false;
        private final int[] numbers = AT_FIRST.clone();
        private final int[] strengths = STRONG_AT_FIRST.clone();
        private final Steps steps = new Steps();
        private final Signs swings = new Signs();

        int number(int which) {
            return at(numbers, which);
        }

        void copyFrom(Recipe other) {
            copyRow(other.numbers, numbers);
            copyRow(other.strengths, strengths);
            steps.copyFrom(other.steps);
            swings.copyFrom(other.swings);
        }
    }

    /** Grams of FLAKES by SIZE. */
    private static final class Flakes {
        private final int[] grams = new int[SIZE_MOST + 1];
        private int total = 0;

        void clear() {
            for (int size = 0; size < grams.length; size++) {
                grams[size] = 0;
            }
            total = 0;
        }

        int gramsOf(int size) {
            return at(grams, size);
        }

        void add(int size, int more) {
            put(grams, size, at(grams, size) + more);
            total += more;
        }

        int coarse() {
            int great = 0;
            for (int size = COARSE_LEAST; size <= SIZE_MOST; size++) {
                great += gramsOf(size);
            }
            return quotient(1000 * great, total);
        }

        /** From the greatest SIZE down: what has grown lies above, and is not met again that DAY. */
        void grow(int swing, int stuff) {
            for (int size = SIZE_MOST; size >= SIZE_LEAST; size--) {
                int moved = quotient(gramsOf(size) * swing, 10 + 5 * stuff);
                add(size, -moved);
                add(Math.min(SIZE_MOST, size + 1 + 100 / size), moved);
            }
        }
    }

    /** The pail: what ICE and SALT make COLD. */
    private static final class Pail {
        private int ice = 0;
        private int saltGrams = 0;
        private int brine = 0;
        private int cold = 0;

        void begin(int iceAtFirst, int saltAtFirst) {
            ice = iceAtFirst;
            saltGrams = saltAtFirst;
            brine = 0;
            cold = 0;
            settle();
        }

        void settle() {
            if (ice > 0) {
                cold = Math.min(210, quotient(900 * saltGrams, ice + brine + saltGrams));
            } else {
                cold = Math.max(0, cold - 5);
            }
        }

        void melt(int flow) {
            int melted = Math.min(ice, flow / 80 + 3);
            ice -= melted;
            brine += melted;
        }
    }

    /** The can: cream, the LAYER on its wall, FLAKES in it. */
    private static final class Cream {
        private int water = 0;
        private int sugar = 0;
        private int fat = 0;
        private int warm = 0;
        private int layer = 0;
        private int air = 0;
        private int churned = 0;
        private final Flakes scraped = new Flakes();

        void begin(Recipe recipe) {
            water = recipe.number(WATER);
            sugar = recipe.number(SUGAR);
            fat = recipe.number(FAT);
            warm = recipe.number(WARM);
            layer = 0;
            air = 0;
            churned = 0;
            scraped.clear();
        }

        private int liquid() {
            return water - scraped.total - layer;
        }

        int line() {
            return quotient(54 * sugar, liquid());
        }

        int stiff() {
            return quotient(100 * scraped.total, water) + air / 5;
        }

        int flow(int cold) {
            return Math.max(0, quotient(120 * (warm + cold), 10 + layer));
        }

        void giveWarmth(int flow) {
            if (warm > -line()) {
                warm = Math.max(-line(), warm - quotient(10 * flow, water + sugar + fat));
            } else {
                layer += Math.min(flow / 80, liquid() - 1);
                warm = -line();
            }
        }

        void scrape(int pace) {
            int off = Math.min(4 * pace, layer);
            scraped.add(Math.min(SCRAPED_MOST, 10 + layer), off);
            layer -= off;
        }

        void beat(int pace, int stiffAhead) {
            if (fat >= 50 && stiffAhead >= 10 && churned < 8) {
                air = Math.min(100, air + pace / 3);
            }
            if (pace >= 6 && stiffAhead >= 50) {
                churned++;
            }
        }
    }

    /** The CHILDREN: how TIRED each is. */
    private static final class Crew {
        private final int[] wearinesses = new int[CHILDREN];

        void begin() {
            for (int child = 0; child < wearinesses.length; child++) {
                wearinesses[child] = 0;
            }
        }

        int weariness(int child) {
            return at(wearinesses, child);
        }

        void pass(int turning, int pace) {
            for (int child = 0; child < CHILDREN; child++) {
                int change = child == turning ? pace / 2 : -1;
                put(wearinesses, child, Math.max(0, weariness(child) + change));
            }
        }
    }

    /** A RUN of a PLAN, as far as it was asked for. */
    private static final class Run {
        private final Pail pail = new Pail();
        private final Cream cream = new Cream();
        private final Crew crew = new Crew();
        private final int[] stiffBehind = new int[MINUTES_MOST];
        private int minutes = 0;
        private int heldMinutes = 0;
        private int firstHeld = NONE;

        void go(Recipe recipe, int until, int saltAtFirst, int way, int onePace) {
            begin(recipe, saltAtFirst);
            Steps steps = recipe.steps;
            for (int part = 0; part < steps.parts; part++) {
                int who = at(steps.who, part);
                int amount = at(steps.amount, part);
                if (who == SALTING) {
                    // SALT counts for the MINUTE behind it: ahead of that MINUTE it has not come yet
                    boolean comes = minutes < until || until == steps.minutes;
                    pail.saltGrams += comes ? 100 * amount : 0;
                } else {
                    int child = isChild(who) ? childInPlace(way, who) : NOBODY;
                    int pace = onePace == PACE_AS_TOLD ? amount : onePace;
                    int end = Math.min(until, minutes + at(steps.length, part));
                    for (int minute = minutes; minute < end; minute++) {
                        passMinute(child, pace, at(recipe.strengths, child));
                    }
                }
            }
        }

        private void begin(Recipe recipe, int saltAtFirst) {
            pail.begin(recipe.number(ICE), saltAtFirst);
            cream.begin(recipe);
            crew.begin();
            minutes = 0;
            heldMinutes = 0;
            firstHeld = NONE;
        }

        private void passMinute(int child, int pace, int strength) {
            int stiffAhead = cream.stiff();
            boolean should = child != NOBODY && pace > 0;
            boolean turns = should && stiffAhead + 4 * pace <= strength - crew.weariness(child);
            if (should && !turns) {
                firstHeld = heldMinutes == 0 ? minutes : firstHeld;
                heldMinutes++;
            }
            int pacedBy = turns ? pace : 0;
            pail.settle();
            int flow = cream.flow(pail.cold);
            pail.melt(flow);
            cream.giveWarmth(flow);
            cream.scrape(pacedBy);
            cream.beat(pacedBy, stiffAhead);
            crew.pass(turns ? child : NOBODY, pacedBy);
            put(stiffBehind, minutes, cream.stiff());
            minutes++;
        }

        int number(int what) {
            switch (what) {
                case 0: return pail.ice;
                case 1: return pail.saltGrams;
                case 2: return pail.brine;
                case 3: return pail.cold;
                case 4: return cream.warm + 1000;
                case 5: return cream.scraped.total;
                case 6: return cream.layer;
                case 7: return cream.air;
                case 8: return cream.stiff();
                case 9: return cream.churned;
                case 10: return cream.scraped.coarse();
                default: return cream.line();
            }
        }
    }
}
