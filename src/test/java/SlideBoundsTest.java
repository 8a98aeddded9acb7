/** The bounds of promises 8 and 9: slide and shot. */
public final class SlideBoundsTest {
    private static final int NONE = WhiteSlopes.NONE;

    public static void main(String[] args) throws Exception {
        Bounds.run(SlideBoundsTest.class);
    }

    @Holds(promise = "8: slide",
        says = {"A SLIDE: the MASS that SLID;", "A SLIDE in a CLASS on a LAYER: all LAYERS above it go (SLID)."})
    static void slideTakesAllAbove(Check check, Season season) {
        for (int layer = 0; layer < 9; layer++) {
            WhiteSlopes x = season.winter(-5, 1, 2, 3, 4, 5, 6, 7, 8, 9, 10);
            int left = 10 * (layer + 1) * (layer + 2) / 2;
            check.due("slide(11, " + layer + ")", x.slide(11, layer), 550 - left);
            check.due("LAYERS left", x.told(11, 0), layer + 1);
            check.due("MASS left", x.told(11, 1), left);
            check.due("SLID", x.count(4), 550 - left);
            check.due("MASS on the slopes", x.count(1), 12 * 550 - 550 + left);
            check.due("LAYERS of another", x.told(10, 0), 10);
        }
    }

    @Holds(promise = "8: slide", says = {"NONE if there is no such CLASS", "CLASSES are 0 .. 11:"})
    static void slideInNoClass(Check check, Season season) {
        WhiteSlopes x = season.winter(-5, 10, 20);
        for (int klass : Bounds.NO_CLASSES) {
            check.due("slide(" + klass + ", 0)", x.slide(klass, 0), NONE);
        }
        check.due("SLID", x.count(4), 0);
        check.due("slide(0, 0)", x.slide(0, 0), 200);
        check.due("slide(11, 0)", x.slide(11, 0), 200);
    }

    @Holds(promise = "8: slide", says = "or LAYER,")
    static void slideOnNoLayer(Check check, Season season) {
        WhiteSlopes x = season.winter(-5, 10, 20);
        for (int layer : new int[] {-1, 2, 3, 9, 10, Integer.MIN_VALUE, Integer.MAX_VALUE}) {
            check.due("slide(0, " + layer + ")", x.slide(0, layer), NONE);
        }
        check.due("SLID", x.count(4), 0);
        check.due("LAYERS", x.told(0, 0), 2);
        WhiteSlopes bare = season.with(0);
        check.due("slide(0, 0) on bare ground", bare.slide(0, 0), NONE);
        check.due("slide(0, -1) on bare ground", bare.slide(0, -1), NONE);
    }

    @Holds(promise = "8: slide", says = "or none above it.")
    static void slideOnTheTop(Check check, Season season) {
        WhiteSlopes one = season.winter(-5, 10);
        check.due("slide(0, 0) of one", one.slide(0, 0), NONE);
        check.due("MASS of one", one.told(0, 1), 100);
        WhiteSlopes two = season.winter(-5, 10, 20);
        check.due("slide(0, 1) of two", two.slide(0, 1), NONE);
        check.due("slide(0, 0) of two", two.slide(0, 0), 200);
        check.due("slide(0, 0) again", two.slide(0, 0), NONE);
        WhiteSlopes ten = season.winter(-5, 1, 1, 1, 1, 1, 1, 1, 1, 1, 7);
        check.due("slide(0, 9) of ten", ten.slide(0, 9), NONE);
        check.due("slide(0, 8) of ten", ten.slide(0, 8), 70);
        check.due("SLID", ten.count(4), 70);
    }

    @Holds(promise = "9: shot",
        says = {"A SHOT: the MASS that SLID", "A SHOT in a CLASS: if LIKELY is 2 or 3, there is a SLIDE on WHY;"})
    static void shotWhereLikelyIs2Or3(Check check, Season season) {
        WhiteSlopes two = season.winter(-5, 10, 27);
        check.due("LIKELY 2", two.told(0, 2), 2);
        check.due("shot(0)", two.shot(0), 270);
        check.due("LAYERS left", two.told(0, 0), 1);
        check.due("SLID", two.count(4), 270);
        WhiteSlopes three = season.winter(-5, 10, 41);
        check.due("LIKELY 3", three.told(11, 2), 3);
        check.due("shot(11)", three.shot(11), 410);
        check.due("SLID by it", three.count(4), 410);
        WhiteSlopes upper = season.winter(-5, 50, 0, 0, 20, 30);
        check.due("WHY", upper.told(5, 5), 1);
        check.due("shot(5)", upper.shot(5), 300);
        check.due("LAYERS up to WHY", upper.told(5, 0), 2);
        check.due("LAYERS of another", upper.told(4, 0), 3);
    }

    @Holds(promise = "9: shot", says = {"(0 if nothing);", "else nothing."})
    static void shotWhereLikelyIs0Or1(Check check, Season season) {
        WhiteSlopes one = season.winter(-5, 10, 26);
        check.due("LIKELY 1", one.told(0, 2), 1);
        check.due("shot(0)", one.shot(0), 0);
        check.due("LAYERS", one.told(0, 0), 2);
        WhiteSlopes none = season.winter(-5, 10, 13);
        check.due("LIKELY 0", none.told(0, 2), 0);
        check.due("shot(0) there", none.shot(0), 0);
        check.due("LAYERS there", none.told(0, 0), 2);
        check.due("SLID", one.count(4) + none.count(4), 0);
        check.due("shot(0) on one LAYER", season.winter(-5, 200).shot(0), 0);
        check.due("shot(0) on bare ground", season.with(0).shot(0), 0);
    }

    @Holds(promise = "9: shot", says = {"NONE if there is no such CLASS.", "CLASSES are 0 .. 11:"})
    static void shotInNoClass(Check check, Season season) {
        WhiteSlopes x = season.winter(-5, 10, 60);
        for (int klass : Bounds.NO_CLASSES) {
            check.due("shot(" + klass + ")", x.shot(klass), NONE);
        }
        check.due("SLID", x.count(4), 0);
        check.due("shot(0)", x.shot(0), 600);
        check.due("shot(11)", x.shot(11), 600);
    }
}
