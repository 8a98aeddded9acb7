/**
 * Snow layer by layer in twelve classes of height and side: how it falls, drifts, changes and slides, how
 * dangerous each class is and why, which paths shut the road, how pits match, and how right the dangers were.
 * The words in capitals in the comments are the terms of the document.
 */
public final class WhiteSlopes {
    /** There is none. */
    public static final int NONE = -1;

    private static final int HEIGHTS = 3;
    private static final int SIDES = 4;
    private static final int CLASSES = HEIGHTS * SIDES;
    private static final int LAST_DAY = 400;
    private static final int MOST_DAYS_AT_ONCE = 30;

    private static final int NEW = 0;
    private static final int SETTLED = 1;
    private static final int WEAK = 2;
    private static final int CRUST = 3;

    private static final int MOST_LIKELY = 3;
    private static final int LIKELY_TO_SLIDE = 2;
    private static final int GREATEST_SIZE = 2;
    private static final int LEAST_DANGER = 1;
    private static final int GREATEST_DANGER = 5;

    private final Slope[] slopes = new Slope[CLASSES];
    private final Weather weather = new Weather();
    private final Road road = new Road();
    private final Pit things = new Pit();
    private final Verdicts verdicts = new Verdicts();
    private int now = 0;
    private int fallen = 0;
    private int melted = 0;
    private int slid = 0;

    public WhiteSlopes() {
        for (int klass = 0; klass < CLASSES; klass++) {
            slopes[klass] = new Slope();
        }
    }

    public boolean snow(int height, int amount) {
        if (now >= LAST_DAY || !isHeight(height) || !Weather.canSnow(amount)) {
            return false;
        }
        weather.tellSnow(height, amount);
        return true;
    }

    public boolean warmth(int height, int degrees) {
        if (now >= LAST_DAY || !isHeight(height) || !Weather.canBeWarm(degrees)) {
            return false;
        }
        weather.tellWarmth(height, degrees);
        return true;
    }

    public boolean wind(int side, int force) {
        if (now >= LAST_DAY || side < 0 || side >= SIDES || !Weather.canBlow(force)) {
            return false;
        }
        weather.tellWind(side, force);
        return true;
    }

    public int go(int n) {
        if (n < 0 || n > MOST_DAYS_AT_ONCE) {
            return NONE;
        }
        for (int day = 0; day < n && now < LAST_DAY; day++) {
            endDay();
        }
        return now;
    }

    public int layer(int klass, int k, int what) {
        if (!isClass(klass) || !slopes[klass].has(k)) {
            return NONE;
        }
        Slope slope = slopes[klass];
        switch (what) {
            case 0: return slope.kindOf(k);
            case 1: return slope.massOf(k);
            case 2: return slope.ageOf(k);
            case 3: return slope.massAbove(k);
            case 4: return slope.indexOf(k);
            default: return NONE;
        }
    }

    public int told(int klass, int what) {
        if (!isClass(klass)) {
            return NONE;
        }
        Slope slope = slopes[klass];
        int depth = slope.depth();
        switch (what) {
            case 0: return depth;
            case 1: return slope.massAbove(NONE);
            case 2: return slope.likelyWithin(depth);
            case 3: return slope.sizeWithin(depth);
            case 4: return dangerOf(klass);
            case 5: return slope.whyWithin(depth);
            default: return NONE;
        }
    }

    public int slide(int klass, int layer) {
        if (!isClass(klass) || !slopes[klass].has(layer) || !slopes[klass].has(layer + 1)) {
            return NONE;
        }
        verdicts.noteSlide(klass);
        return takeAbove(klass, layer);
    }

    public int shot(int klass) {
        if (!isClass(klass)) {
            return NONE;
        }
        Slope slope = slopes[klass];
        int depth = slope.depth();
        if (slope.likelyWithin(depth) < LIKELY_TO_SLIDE) {
            return 0;
        }
        return takeAbove(klass, slope.whyWithin(depth));
    }

    public int path(int klass, int size) {
        if (!isClass(klass) || size < 0 || size > GREATEST_SIZE) {
            return NONE;
        }
        return road.addPath(klass, size);
    }

    public int shut() {
        int bits = 0;
        for (int number = 0; number < road.paths(); number++) {
            int klass = road.classOf(number);
            if (isClass(klass) && slopes[klass].reaches(road.needOf(number), slopes[klass].depth())) {
                bits |= 1 << number;
            }
        }
        return bits;
    }

    /**
     * A SHOT changes nothing in other CLASSES, so each CLASS that shuts the road needs its own one, and a CLASS
     * that would still shut the road after it makes the whole impossible.
     */
    public int shots() {
        int fewest = 0;
        for (int klass = 0; klass < CLASSES; klass++) {
            Slope slope = slopes[klass];
            int need = road.leastNeedIn(klass);
            int depth = slope.depth();
            if (slope.reaches(need, depth)) {
                if (slope.reaches(need, slope.whyWithin(depth) + 1)) {
                    return NONE;
                }
                fewest++;
            }
        }
        return fewest;
    }

    public int pit() {
        return things.empty();
    }

    public int seen(int kind, int mass) {
        return things.addBelow(kind, mass);
    }

    public int matched(int klass) {
        return isClass(klass) ? things.costAgainst(slopes[klass]) : NONE;
    }

    public int nearest() {
        int best = 0;
        int least = things.costAgainst(slopes[0]);
        for (int klass = 1; klass < CLASSES; klass++) {
            int cost = things.costAgainst(slopes[klass]);
            if (cost < least) {
                least = cost;
                best = klass;
            }
        }
        return best;
    }

    public int watch(int klass) {
        if (!isClass(klass) || now >= LAST_DAY) {
            return NONE;
        }
        int danger = dangerOf(klass);
        verdicts.noteDanger(klass, danger);
        return danger;
    }

    public int right(int what) {
        return verdicts.tallyOf(what);
    }

    public int count(int what) {
        switch (what) {
            case 0: return now;
            case 1: return massOnSlopes();
            case 2: return fallen;
            case 3: return melted;
            case 4: return slid;
            case 5: return greatestDanger();
            case 6: return road.paths();
            case 7: return things.number();
            default: return NONE;
        }
    }

    private static boolean isHeight(int height) {
        return height >= 0 && height < HEIGHTS;
    }

    private static boolean isClass(int klass) {
        return klass >= 0 && klass < CLASSES;
    }

    private void endDay() {
        verdicts.judgeDay();
        letSnowFall();
        if (weather.isDrifting()) {
            letSnowDrift();
        }
        letSnowChange();
        weather.endDay();
        now++;
    }

    private void letSnowFall() {
        for (int klass = 0; klass < CLASSES; klass++) {
            int mass = weather.fallingMassAt(klass / SIDES);
            slopes[klass].growOlder();
            slopes[klass].addNew(mass);
            fallen += mass;
        }
    }

    private void letSnowDrift() {
        int from = weather.windSide();
        int to = (from + SIDES / 2) % SIDES;
        for (int height = 0; height < HEIGHTS; height++) {
            int mass = slopes[height * SIDES + from].giveToWind(weather.driftingParts());
            slopes[height * SIDES + to].takeFromWind(mass);
        }
    }

    private void letSnowChange() {
        for (int klass = 0; klass < CLASSES; klass++) {
            int degrees = weather.warmthAt(klass / SIDES);
            slopes[klass].changeKinds(degrees);
            melted += slopes[klass].melt(degrees);
        }
    }

    private int takeAbove(int klass, int k) {
        int mass = slopes[klass].removeAbove(k);
        slid += mass;
        return mass;
    }

    private int dangerOf(int klass) {
        Slope slope = slopes[klass];
        int likely = slope.likelyWithin(slope.depth());
        if (likely == 0) {
            return LEAST_DANGER;
        }
        // SIZE 0 takes one away, SIZE 2 adds one.
        int danger = 1 + likely + spreadAt(klass / SIDES) + slope.sizeWithin(slope.depth()) - 1;
        return Math.max(LEAST_DANGER, Math.min(GREATEST_DANGER, danger));
    }

    private int spreadAt(int height) {
        int likelyOnes = 0;
        for (int side = 0; side < SIDES; side++) {
            Slope slope = slopes[height * SIDES + side];
            if (slope.likelyWithin(slope.depth()) >= LIKELY_TO_SLIDE) {
                likelyOnes++;
            }
        }
        return likelyOnes >= 2 ? 1 : 0;
    }

    private int greatestDanger() {
        int greatest = LEAST_DANGER;
        for (int klass = 0; klass < CLASSES; klass++) {
            greatest = Math.max(greatest, dangerOf(klass));
        }
        return greatest;
    }

    private int massOnSlopes() {
        int mass = 0;
        for (int klass = 0; klass < CLASSES; klass++) {
            mass += slopes[klass].massAbove(NONE);
        }
        return mass;
    }

    /** The LAYERS of one CLASS, from the ground up. */
    private static final class Slope {
        private static final int MOST_LAYERS = 10;
        private static final int GREATEST_INDEX = 999;
        private static final int AGE_OF_CHANGE = 3;
        private static final int AGE_OF_STRENGTH = 20;
        private static final int WARMTH_THAT_WEAKENS = -8;
        private static final int MASS_TOO_GREAT_TO_WEAKEN = 300;
        private static final int MELTING_BY_DEGREE = 6;

        private final int[] kinds = new int[MOST_LAYERS];
        private final int[] masses = new int[MOST_LAYERS];
        private final int[] ages = new int[MOST_LAYERS];
        private int layers = 0;

        int depth() {
            return layers;
        }

        boolean has(int k) {
            return k >= 0 && k < layers;
        }

        int kindOf(int k) {
            return has(k) ? kinds[k] : NONE;
        }

        int massOf(int k) {
            return has(k) ? masses[k] : 0;
        }

        int ageOf(int k) {
            return has(k) ? ages[k] : NONE;
        }

        int indexOf(int k) {
            return has(k) ? indexUnder(bearingOf(kinds[k], ages[k]), massAbove(k)) : NONE;
        }

        /** LOAD of a LAYER; NONE as the LAYER means the ground: all MASS. */
        int massAbove(int k) {
            return massBetween(k, layers);
        }

        /** WHY, if only the lowest so many LAYERS lay here: so the outcome of a SHOT is known without one. */
        int whyWithin(int depth) {
            int why = NONE;
            int least = 0;
            int load = 0;
            for (int k = Math.min(depth, layers) - 1; k >= 0; k--) {
                int index = indexUnder(bearingOf(kinds[k], ages[k]), load);
                if (index != NONE && (why == NONE || index < least)) {
                    why = k;
                    least = index;
                }
                load += masses[k];
            }
            return why;
        }

        int likelyWithin(int depth) {
            int why = whyWithin(depth);
            if (!has(why)) {
                return 0;
            }
            int index = indexUnder(bearingOf(kinds[why], ages[why]), massBetween(why, depth));
            if (index < 100) {
                return MOST_LIKELY;
            }
            if (index < 150) {
                return LIKELY_TO_SLIDE;
            }
            return index < 300 ? 1 : 0;
        }

        int sizeWithin(int depth) {
            int why = whyWithin(depth);
            int load = why == NONE ? 0 : massBetween(why, depth);
            if (load >= 500) {
                return GREATEST_SIZE;
            }
            return load >= 200 ? 1 : 0;
        }

        boolean reaches(int need, int depth) {
            return likelyWithin(depth) >= LIKELY_TO_SLIDE && sizeWithin(depth) >= need;
        }

        void growOlder() {
            for (int k = 0; k < layers; k++) {
                ages[k]++;
            }
        }

        void addNew(int mass) {
            if (mass <= 0) {
                return;
            }
            if (layers >= MOST_LAYERS) {
                joinLowest();
            }
            kinds[layers] = NEW;
            masses[layers] = mass;
            ages[layers] = 0;
            layers++;
        }

        int giveToWind(int partsOfHundred) {
            if (!isTopNew()) {
                return 0;
            }
            int mass = masses[layers - 1] * partsOfHundred / 100;
            masses[layers - 1] -= mass;
            return mass;
        }

        void takeFromWind(int mass) {
            if (isTopNew()) {
                masses[layers - 1] += mass;
            } else {
                addNew(mass);
            }
        }

        void changeKinds(int degrees) {
            for (int k = 0; k < layers; k++) {
                if (kinds[k] == NEW && ages[k] >= AGE_OF_CHANGE) {
                    boolean weakens = degrees <= WARMTH_THAT_WEAKENS && masses[k] < MASS_TOO_GREAT_TO_WEAKEN;
                    kinds[k] = weakens ? WEAK : SETTLED;
                }
                if (kinds[k] == WEAK && ages[k] >= AGE_OF_STRENGTH) {
                    kinds[k] = SETTLED;
                }
            }
        }

        /** How much MELTED. */
        int melt(int degrees) {
            if (degrees <= 0) {
                return 0;
            }
            int wanted = MELTING_BY_DEGREE * degrees;
            int left = wanted;
            while (layers > 0 && left >= masses[layers - 1]) {
                left -= masses[layers - 1];
                layers--;
            }
            if (layers == 0) {
                return wanted - left;
            }
            masses[layers - 1] -= left;
            kinds[layers - 1] = CRUST;
            return wanted;
        }

        /** How much MASS went. */
        int removeAbove(int k) {
            if (!has(k)) {
                return 0;
            }
            int mass = massAbove(k);
            layers = k + 1;
            return mass;
        }

        private boolean isTopNew() {
            return layers > 0 && kinds[layers - 1] == NEW;
        }

        private int massBetween(int k, int depth) {
            int mass = 0;
            for (int above = Math.max(k + 1, 0); above < depth && above < layers; above++) {
                mass += masses[above];
            }
            return mass;
        }

        private static int indexUnder(int bearing, int load) {
            if (load <= 0) {
                return NONE;
            }
            int index = 100 * bearing / load;
            return index > GREATEST_INDEX ? GREATEST_INDEX : index;
        }

        private static int bearingOf(int kind, int age) {
            switch (kind) {
                case NEW: return 400;
                case SETTLED: return 900;
                case WEAK: return 250 + 15 * age;
                case CRUST: return 3000;
                default: return 0;
            }
        }

        private void joinLowest() {
            masses[1] += masses[0];
            ages[1] = Math.max(ages[0], ages[1]);
            for (int k = 1; k < layers; k++) {
                kinds[k - 1] = kinds[k];
                masses[k - 1] = masses[k];
                ages[k - 1] = ages[k];
            }
            layers--;
        }
    }

    /** What is told of NOW for each HEIGHT, and what fills its GAPS. */
    private static final class Weather {
        private static final int GREATEST_SNOW = 200;
        private static final int LEAST_WARMTH = -30;
        private static final int GREATEST_WARMTH = 10;
        private static final int WARMTH_GAP = -100;
        private static final int FIRST_WARMTH = -5;
        private static final int GREATEST_FORCE = 9;
        private static final int GREATEST_FORCE_AT_REST = 3;

        private final int[] snows = new int[HEIGHTS];
        private final int[] warmths = new int[HEIGHTS];
        private final int[] warmthsBefore = new int[HEIGHTS];
        private int side = 0;
        private int force = 0;

        Weather() {
            for (int height = 0; height < HEIGHTS; height++) {
                snows[height] = NONE;
                warmths[height] = WARMTH_GAP;
                warmthsBefore[height] = FIRST_WARMTH;
            }
        }

        static boolean canSnow(int amount) {
            return amount == NONE || (amount >= 0 && amount <= GREATEST_SNOW);
        }

        static boolean canBeWarm(int degrees) {
            return degrees == WARMTH_GAP || (degrees >= LEAST_WARMTH && degrees <= GREATEST_WARMTH);
        }

        static boolean canBlow(int force) {
            return force >= 0 && force <= GREATEST_FORCE;
        }

        void tellSnow(int height, int amount) {
            if (isHeight(height)) {
                snows[height] = amount;
            }
        }

        void tellWarmth(int height, int degrees) {
            if (isHeight(height)) {
                warmths[height] = degrees;
            }
        }

        void tellWind(int fromSide, int withForce) {
            side = fromSide;
            force = withForce;
        }

        int fallingMassAt(int height) {
            if (!isHeight(height)) {
                return 0;
            }
            return 10 * (snows[height] == NONE ? meanSnow() : snows[height]);
        }

        int warmthAt(int height) {
            if (!isHeight(height)) {
                return FIRST_WARMTH;
            }
            return warmths[height] == WARMTH_GAP ? warmthsBefore[height] : warmths[height];
        }

        boolean isDrifting() {
            return force > GREATEST_FORCE_AT_REST;
        }

        int windSide() {
            return side;
        }

        int driftingParts() {
            return 4 * force;
        }

        void endDay() {
            for (int height = 0; height < HEIGHTS; height++) {
                warmthsBefore[height] = warmthAt(height);
                warmths[height] = WARMTH_GAP;
                snows[height] = NONE;
            }
            force = 0;
        }

        private int meanSnow() {
            int sum = 0;
            int toldOnes = 0;
            for (int height = 0; height < HEIGHTS; height++) {
                if (snows[height] != NONE) {
                    sum += snows[height];
                    toldOnes++;
                }
            }
            return toldOnes == 0 ? 0 : sum / toldOnes;
        }
    }

    /** The PATHS above the road. */
    private static final class Road {
        private static final int MOST_PATHS = 10;
        private static final int NEVER = GREATEST_SIZE + 1;

        private final int[] klasses = new int[MOST_PATHS];
        private final int[] needs = new int[MOST_PATHS];
        private int number = 0;

        int paths() {
            return number;
        }

        int addPath(int klass, int need) {
            if (number >= MOST_PATHS) {
                return NONE;
            }
            klasses[number] = klass;
            needs[number] = need;
            number++;
            return number - 1;
        }

        int classOf(int path) {
            return path >= 0 && path < number ? klasses[path] : NONE;
        }

        int needOf(int path) {
            return path >= 0 && path < number ? needs[path] : NEVER;
        }

        /** From which SIZE on some PATH of a CLASS reaches the road. */
        int leastNeedIn(int klass) {
            int least = NEVER;
            for (int path = 0; path < number; path++) {
                if (klasses[path] == klass) {
                    least = Math.min(least, needs[path]);
                }
            }
            return least;
        }
    }

    /** The PIT: what was seen, from the top down. */
    private static final class Pit {
        private static final int MOST_THINGS = 6;
        private static final int GREATEST_MASS = 9999;
        private static final int COST_OF_LEAVING_OUT = 30;
        private static final int COST_OF_OTHER_KIND = 40;

        private final int[] kinds = new int[MOST_THINGS];
        private final int[] masses = new int[MOST_THINGS];
        /** Kept from call to call, so that matching makes no object. */
        private final int[] costs = new int[Slope.MOST_LAYERS + 1];
        private int number = 0;

        int number() {
            return number;
        }

        int empty() {
            int had = number;
            number = 0;
            return had;
        }

        int addBelow(int kind, int mass) {
            if (number >= MOST_THINGS || kind < NEW || kind > CRUST || mass < 1 || mass > GREATEST_MASS) {
                return NONE;
            }
            kinds[number] = kind;
            masses[number] = mass;
            number++;
            return number;
        }

        /** After each thing, costs[j] is the least sum for the things so far and the j highest LAYERS. */
        int costAgainst(Slope slope) {
            int depth = Math.min(slope.depth(), Slope.MOST_LAYERS);
            for (int j = 0; j <= depth; j++) {
                costs[j] = COST_OF_LEAVING_OUT * j;
            }
            for (int thing = 0; thing < number; thing++) {
                int before = costs[0];
                costs[0] += COST_OF_LEAVING_OUT;
                for (int j = 1; j <= depth; j++) {
                    int paired = before + costOfPair(thing, slope, depth - j);
                    int leftOut = Math.min(costs[j], costs[j - 1]) + COST_OF_LEAVING_OUT;
                    before = costs[j];
                    costs[j] = Math.min(paired, leftOut);
                }
            }
            return costs[depth];
        }

        private int costOfPair(int thing, Slope slope, int k) {
            int cost = Math.abs(masses[thing] - slope.massOf(k)) / 10;
            return kinds[thing] == slope.kindOf(k) ? cost : cost + COST_OF_OTHER_KIND;
        }
    }

    /** RIGHT: the DANGERS that were WATCHED against the SLIDES that came. */
    private static final class Verdicts {
        private static final int TALLIES = 4;
        private static final int HIGH_DANGER = 3;
        /** No DANGER is 0. */
        private static final int NOT_WATCHED = 0;

        private final int[] dangers = new int[CLASSES];
        private final boolean[] slidToday = new boolean[CLASSES];
        private final int[] tallies = new int[TALLIES];

        void noteSlide(int klass) {
            if (isClass(klass)) {
                slidToday[klass] = true;
            }
        }

        void noteDanger(int klass, int danger) {
            if (isClass(klass) && dangers[klass] == NOT_WATCHED) {
                dangers[klass] = danger;
            }
        }

        int tallyOf(int what) {
            return what >= 0 && what < TALLIES ? tallies[what] : NONE;
        }

        void judgeDay() {
            for (int klass = 0; klass < CLASSES; klass++) {
                if (dangers[klass] != NOT_WATCHED) {
                    int row = (dangers[klass] >= HIGH_DANGER ? 0 : 2) + (slidToday[klass] ? 0 : 1);
                    tallies[row]++;
                }
                dangers[klass] = NOT_WATCHED;
                slidToday[klass] = false;
            }
        }
    }
}
