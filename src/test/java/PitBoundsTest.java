/** The bounds of promises 13 to 16: pit, seen, matched, nearest. */
public final class PitBoundsTest {
    private static final int NONE = WhiteSlopes.NONE;

    public static void main(String[] args) throws Exception {
        Bounds.run(PitBoundsTest.class);
    }

    /** What one thing costs against one NEW LAYER of 100. */
    private static int costOnHundred(Season season, int kind, int mass) {
        WhiteSlopes x = season.winter(-5, 10);
        x.seen(kind, mass);
        return x.matched(6);
    }

    // ---- Promise 13: pit

    @Holds(promise = "13: pit", says = "The PIT becomes empty: how many things it had.")
    static void pitOf0To6(Check check, Season season) {
        WhiteSlopes x = season.with(0);
        for (int things = 0; things <= 6; things++) {
            for (int i = 0; i < things; i++) {
                check.due("seen(1, 5)", x.seen(1, 5), i + 1);
            }
            check.due("pit() of " + things, x.pit(), things);
            check.due("things left", x.count(7), 0);
            check.due("pit() again", x.pit(), 0);
            check.due("matched(0) by the empty one", x.matched(0), 0);
        }
        for (int i = 0; i < 6; i++) {
            x.seen(0, 1);
        }
        x.seen(0, 1);
        check.due("pit() after a seventh was refused", x.pit(), 6);
    }

    // ---- Promise 14: seen

    @Holds(promise = "14: seen",
        says = {"how many there are; NONE if there are 6,", "A PIT: a row of at most 6 things seen from the top down,"})
    static void sixThingsAtMost(Check check, Season season) {
        WhiteSlopes x = season.winter(-5, 6, 5, 4, 3, 2, 1);
        for (int i = 1; i <= 6; i++) {
            check.due("thing " + i, x.seen(i < 4 ? 0 : 1, 10 * i), i);
            check.due("things", x.count(7), i);
        }
        check.due("a seventh", x.seen(1, 70), NONE);
        check.due("a seventh like the first", x.seen(0, 10), NONE);
        check.due("things", x.count(7), 6);
        check.due("matched(0) by six", x.matched(0), 0);
    }

    @Holds(promise = "14: seen", says = {"there is no such KIND,", "a KIND (0 NEW, 1 SETTLED, 2 WEAK, 3 CRUST),"})
    static void seenOfNoKind(Check check, Season season) {
        WhiteSlopes x = season.with(0);
        for (int kind : new int[] {-1, 4, 5, Integer.MIN_VALUE, Integer.MAX_VALUE}) {
            check.due("seen(" + kind + ", 5)", x.seen(kind, 5), NONE);
        }
        check.due("things", x.count(7), 0);
        for (int kind = 0; kind < 4; kind++) {
            check.due("seen(" + kind + ", 5)", x.seen(kind, 5), kind + 1);
        }
    }

    @Holds(promise = "14: seen", says = "or MASS isn't 1 .. 9999.")
    static void seenOfAMassThatIsNone(Check check, Season season) {
        WhiteSlopes x = season.with(0);
        for (int mass : new int[] {0, -1, 10000, 10001, -9999, Integer.MIN_VALUE, Integer.MAX_VALUE}) {
            check.due("seen(0, " + mass + ")", x.seen(0, mass), NONE);
        }
        check.due("things", x.count(7), 0);
        check.due("seen(0, 1)", x.seen(0, 1), 1);
        check.due("seen(3, 9999)", x.seen(3, 9999), 2);
        WhiteSlopes heavy = season.winter(-5, 200, 200, 200, 200, 200, 2, 2, 2, 2, 2);
        heavy.seen(1, 9999);
        check.due("9999 is too far from 2000", heavy.matched(0), 330);
    }

    @Holds(promise = "14: seen", says = "A thing more in the PIT, below those there:")
    static void seenBelowThoseThere(Check check, Season season) {
        WhiteSlopes x = season.winter(-5, 10, 90);
        x.seen(0, 900);
        x.seen(0, 100);
        check.due("the top first", x.matched(0), 0);
        WhiteSlopes y = season.winter(-5, 10, 90);
        y.seen(0, 100);
        y.seen(0, 900);
        check.due("the ground first", y.matched(0), 60);
    }

    // ---- Promise 15: matched

    @Holds(promise = "15: matched", says = {"NONE if there is none such.", "CLASSES are 0 .. 11:"})
    static void matchedToNoClass(Check check, Season season) {
        WhiteSlopes x = season.winter(-5, 10, 20);
        check.due("matched(0)", x.matched(0), 60);
        check.due("matched(11)", x.matched(11), 60);
        for (int klass : Bounds.NO_CLASSES) {
            check.due("matched(" + klass + ")", x.matched(klass), NONE);
        }
    }

    @Holds(promise = "15: matched", says = "a pair costs how much MASSES differ, by 10 (cut),")
    static void pairByMasses(Check check, Season season) {
        int[] masses = {100, 101, 109, 110, 119, 120, 99, 91, 90, 81, 80, 1};
        int[] costs = {0, 0, 0, 1, 1, 2, 0, 0, 1, 1, 2, 9};
        for (int i = 0; i < masses.length; i++) {
            check.due("a pair of 100 and " + masses[i], costOnHundred(season, 0, masses[i]), costs[i]);
        }
    }

    @Holds(promise = "15: matched", says = {"and 40 if KINDS differ;", "each a KIND and a MASS."})
    static void pairByKinds(Check check, Season season) {
        int[] degrees = {-5, -5, -20, 1};
        for (int kind = 0; kind < 4; kind++) {
            for (int seen = 0; seen < 4; seen++) {
                WhiteSlopes x = season.winter(degrees[kind], kind == 0 ? new int[] {10} : new int[] {10, 0, 0, 0});
                check.due("KIND", x.layer(9, 0, 0), kind);
                x.seen(seen, x.layer(9, 0, 1) + 5);
                check.due("a pair of " + kind + " and " + seen, x.matched(9), kind == seen ? 0 : 40);
            }
        }
        check.due("other KIND and 19 more", costOnHundred(season, 1, 119), 41);
    }

    /** A pair that costs 61 is none: both are left out for 60. */
    @Holds(promise = "15: matched", says = {"what is left out of either costs 30.", "The least sum."})
    static void leftOutCosts30(Check check, Season season) {
        int[][] things = {{0, 699}, {0, 700}, {0, 709}, {0, 710}, {1, 299}, {1, 300}, {1, 310}, {0, 9999}, {3, 9999}};
        int[] costs = {59, 60, 60, 60, 59, 60, 60, 60, 60};
        for (int i = 0; i < things.length; i++) {
            check.due("case " + i, costOnHundred(season, things[i][0], things[i][1]), costs[i]);
        }
        WhiteSlopes x = season.winter(-5, 10, 20, 30);
        x.seen(0, 200);
        check.due("LAYERS above and below left out", x.matched(0), 60);
        WhiteSlopes y = season.winter(-5, 10);
        y.seen(0, 5000);
        y.seen(0, 105);
        y.seen(3, 5000);
        check.due("things above and below left out", y.matched(0), 60);
    }

    @Holds(promise = "15: matched",
        says = {"The least sum by which the PIT is MATCHED to a CLASS;", "what is left out of either costs 30."})
    static void emptyAndFullOfEither(Check check, Season season) {
        int[] ten = {1, 1, 1, 1, 1, 1, 1, 1, 1, 1};
        for (int layers = 0; layers <= 10; layers++) {
            WhiteSlopes x = season.winter(-5, java.util.Arrays.copyOf(ten, layers));
            for (int things = 0; things <= 6; things++) {
                check.due(things + " things, " + layers + " LAYERS", x.matched(0), 30 * (layers + things));
                x.seen(0, 9999);
            }
        }
        WhiteSlopes full = season.winter(-5, 1, 2, 3, 4, 5, 6, 7, 8, 9, 10);
        full.seen(0, 100);
        full.seen(0, 90);
        full.seen(0, 80);
        full.seen(1, 30);
        full.seen(1, 20);
        full.seen(1, 10);
        check.due("six for the three highest and the three lowest", full.matched(0), 120);
    }

    @Holds(promise = "15: matched", says = "It is MATCHED to LAYERS of a CLASS from the top down, in order:")
    static void matchedInOrder(Check check, Season season) {
        WhiteSlopes x = season.winter(-5, 10, 50, 90);
        x.seen(0, 900);
        x.seen(0, 100);
        check.due("top and ground", x.matched(0), 30);
        x.pit();
        x.seen(0, 100);
        x.seen(0, 500);
        x.seen(0, 900);
        check.due("turned round, the middle alone is a pair", x.matched(0), 120);
        WhiteSlopes y = season.winter(-5, 10, 50, 190);
        y.seen(0, 1900);
        y.seen(0, 1900);
        check.due("one LAYER is for one thing", y.matched(0), 90);
    }

    // ---- Promise 16: nearest

    @Holds(promise = "16: nearest", says = "The CLASS to which it is MATCHED for the least sum,")
    static void nearestIsTheLeastSum(Check check, Season season) {
        for (int best = 0; best < 12; best++) {
            WhiteSlopes x = season.winter(-5, 10, 20);
            x.slide(best, 0);
            check.due("nearest() with " + best, x.nearest(), best);
            x.seen(0, 200);
            x.seen(0, 100);
            check.due("nearest() of two LAYERS", x.nearest(), best == 0 ? 1 : 0);
        }
    }

    @Holds(promise = "16: nearest", says = "of like ones the least.")
    static void nearestOfLikeOnesIsTheLeast(Check check, Season season) {
        check.due("on bare ground", season.with(0).nearest(), 0);
        check.due("on like slopes", season.winter(-5, 10).nearest(), 0);
        for (int first = 0; first < 11; first++) {
            WhiteSlopes x = season.winter(-5, 10, 20);
            x.slide(11, 0);
            x.slide(first, 0);
            check.due("of " + first + " and 11", x.nearest(), first);
            check.due("which are alike", x.matched(first), x.matched(11));
        }
    }
}
