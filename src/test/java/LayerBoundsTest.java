/** The bounds of promises 6 and 7: layer and told, with LOAD, INDEX, WHY, LIKELY, SIZE, SPREAD and DANGER. */
public final class LayerBoundsTest {
    private static final int NONE = WhiteSlopes.NONE;
    private static final int LOAD = 3;
    private static final int INDEX = 4;
    private static final int LIKELY = 2;
    private static final int SIZE = 3;
    private static final int DANGER = 4;
    private static final int WHY = 5;
    private static final int[] NO_WHATS = {-1, 99, Integer.MIN_VALUE, Integer.MAX_VALUE};

    public static void main(String[] args) throws Exception {
        Bounds.run(LayerBoundsTest.class);
    }

    /** A winter whose last DAY has WIND from the north. */
    private static WhiteSlopes drifted(Season season, int force, int last, int... amounts) {
        WhiteSlopes x = season.winterWith(1, -5, amounts);
        Season.drift(x, 0, force, last);
        return x;
    }

    /** CRUST of 94 below so much SNOW. */
    private static WhiteSlopes onCrust(Season season, int amount) {
        WhiteSlopes x = season.winterWith(1, 1, 10);
        Season.warm(x, -5);
        Season.fall(x, amount);
        return x;
    }

    // ---- Promise 6: layer

    @Holds(promise = "6: layer", says = {"or if there is none such.", "CLASSES are 0 .. 11:"})
    static void layerOfNoClass(Check check, Season season) {
        WhiteSlopes x = season.winter(-5, 10);
        check.due("layer(0, 0, 1)", x.layer(0, 0, 1), 100);
        check.due("layer(11, 0, 1)", x.layer(11, 0, 1), 100);
        for (int klass : Bounds.NO_CLASSES) {
            for (int what = 0; what < 5; what++) {
                check.due("layer(" + klass + ", 0, " + what + ")", x.layer(klass, 0, what), NONE);
            }
        }
    }

    @Holds(promise = "6: layer",
        says = {"LAYER k of a CLASS from the ground up (from 0 on):", "or if there is none such."})
    static void layersFrom0On(Check check, Season season) {
        int[] ten = {1, 2, 3, 4, 5, 6, 7, 8, 9, 10};
        for (int layers = 0; layers <= 10; layers++) {
            WhiteSlopes x = season.winter(-5, java.util.Arrays.copyOf(ten, layers));
            for (int k = 0; k < layers; k++) {
                check.due("layer(5, " + k + ", 1) of " + layers, x.layer(5, k, 1), 10 * (k + 1));
            }
            for (int k : new int[] {-1, layers, 10, 11, Integer.MIN_VALUE, Integer.MAX_VALUE}) {
                for (int what = 0; what < 5; what++) {
                    check.due("layer(5, " + k + ", " + what + ") of " + layers, x.layer(5, k, what), NONE);
                }
            }
        }
    }

    @Holds(promise = "6: layer", says = {"0 its KIND, 1 MASS, 2 AGE, 3 LOAD, 4 INDEX", "NONE for others,", "a MASS,"})
    static void layerToldFrom0To4(Check check, Season season) {
        WhiteSlopes x = season.winter(-20, 10, 0, 0, 20);
        int[] due = {2, 100, 3, 200, 147};
        for (int what = 0; what < 5; what++) {
            check.due("layer(0, 0, " + what + ")", x.layer(0, 0, what), due[what]);
        }
        check.due("layer(0, 0, 5)", x.layer(0, 0, 5), NONE);
        for (int what : NO_WHATS) {
            check.due("layer(0, 0, " + what + ")", x.layer(0, 0, what), NONE);
        }
    }

    /** LOAD 0 and LOAD 1: 7 of the north gives 1 to what a SLIDE left in the south. */
    @Holds(promise = "6: layer", says = {"(NONE without LOAD).", "INDEX of a LAYER with a LOAD above 0:"})
    static void indexWithALoadAbove0(Check check, Season season) {
        WhiteSlopes x = season.winterWith(2, -5, 10, 0, 0);
        Season.drift(x, 0, 9, 1);
        x.slide(2, 0);
        check.due("LOAD of the top", x.layer(2, 0, LOAD), 0);
        check.due("INDEX without LOAD", x.layer(2, 0, INDEX), NONE);
        x.wind(0, 4);
        x.go(1);
        check.due("LOAD of 1", x.layer(2, 0, LOAD), 1);
        check.due("INDEX under 1", x.layer(2, 0, INDEX), 999);
        check.due("INDEX of the 1 on top", x.layer(2, 1, INDEX), NONE);
        check.due("WHY under 1", x.told(2, WHY), 0);
    }

    @Holds(promise = "6: layer", says = "LOAD of a LAYER is the MASS of all LAYERS above it.")
    static void loadOfTopAndGround(Check check, Season season) {
        WhiteSlopes x = season.winter(-5, 1, 2, 3, 4, 5, 6, 7, 8, 9, 10);
        int load = 540;
        for (int k = 0; k < 10; k++) {
            check.due("LOAD of " + k, x.layer(11, k, LOAD), load);
            load -= 10 * (k + 2);
        }
    }

    /** Under a LOAD of 100 INDEX is what a LAYER BEARS; CRUST bears too much for that, so two LOADS tell of it. */
    @Holds(promise = "6: layer",
        says = "It BEARS 400 if it is NEW, 900 SETTLED, 250 and 15 for each DAY of AGE WEAK, 3000 CRUST.")
    static void eachKindBears(Check check, Season season) {
        check.due("NEW", season.winter(-5, 10, 10).layer(0, 0, INDEX), 400);
        check.due("SETTLED", season.winter(-5, 10, 0, 0, 10).layer(0, 0, INDEX), 900);
        check.due("CRUST under 400", onCrust(season, 40).layer(0, 0, INDEX), 750);
        check.due("CRUST under 310", onCrust(season, 31).layer(0, 0, INDEX), 967);
        WhiteSlopes weak = season.winterWith(17, -20, 10, 0, 0, 10);
        for (int age = 3; age < 20; age++) {
            check.due("WEAK of AGE " + age, weak.layer(0, 0, INDEX), 250 + 15 * age);
            weak.go(1);
        }
        check.due("SETTLED from 20 on", weak.layer(0, 0, INDEX), 900);
    }

    @Holds(promise = "6: layer", says = "100 times what it BEARS by LOAD (cut, 999 at most).")
    static void indexIsCutAnd999AtMost(Check check, Season season) {
        check.due("133 and a third", season.winter(-5, 10, 30).layer(0, 0, INDEX), 133);
        check.due("148 and a bit", season.winter(-5, 10, 27).layer(0, 0, INDEX), 148);
        check.due("149 and almost one more", drifted(season, 7, 37, 10).layer(0, 0, INDEX), 149);
        check.due("just 1000", season.winter(-5, 10, 0, 0, 9).layer(0, 0, INDEX), 999);
        check.due("just 1000 by CRUST", onCrust(season, 30).layer(0, 0, INDEX), 999);
        check.due("far above", season.winter(-5, 10, 0, 0, 1).layer(0, 0, INDEX), 999);
        check.due("just 1000 by NEW", season.winter(-5, 10, 4).layer(0, 0, INDEX), 999);
        WhiteSlopes below = season.winterWith(1, 1, 10);
        Season.warm(below, -5);
        Season.drift(below, 0, 9, 47);
        check.due("LOAD 301", below.layer(0, 0, LOAD), 301);
        check.due("996 on CRUST", below.layer(0, 0, INDEX), 996);
    }

    // ---- Promise 7: told

    @Holds(promise = "7: told", says = {"Of a CLASS:", "or if there is none such.", "CLASSES are 0 .. 11:"})
    static void toldOfNoClass(Check check, Season season) {
        WhiteSlopes x = season.winter(-5, 10, 60);
        check.due("told(0, 1)", x.told(0, 1), 700);
        check.due("told(11, 1)", x.told(11, 1), 700);
        for (int klass : Bounds.NO_CLASSES) {
            for (int what = 0; what < 6; what++) {
                check.due("told(" + klass + ", " + what + ")", x.told(klass, what), NONE);
            }
        }
    }

    @Holds(promise = "7: told",
        says = {"0 how many LAYERS, 1 all MASS, 2 LIKELY, 3 SIZE, 4 DANGER, 5 WHY", "NONE for others,"})
    static void toldFrom0To5(Check check, Season season) {
        WhiteSlopes x = season.winter(-5, 50, 0, 0, 20, 30);
        int[] due = {3, 1000, 2, 1, 4, 1};
        for (int what = 0; what < 6; what++) {
            check.due("told(7, " + what + ")", x.told(7, what), due[what]);
        }
        check.due("told(7, 6)", x.told(7, 6), NONE);
        for (int what : NO_WHATS) {
            check.due("told(7, " + what + ")", x.told(7, what), NONE);
        }
    }

    @Holds(promise = "7: told", says = {"HEIGHT (0 .. 2) times 4 and SIDE (0 north, 1 east, 2 south, 3 west)."})
    static void classesByHeightAndSide(Check check, Season season) {
        for (int side = 0; side < 4; side++) {
            WhiteSlopes x = season.with(1);
            x.snow(0, 10);
            x.snow(1, 20);
            x.snow(2, 30);
            x.wind(side, 5);
            x.go(1);
            for (int klass = 0; klass < 12; klass++) {
                int fell = 100 * (klass / 4 + 1);
                int drift = klass % 4 == side ? -fell / 5 : klass % 4 == (side + 2) % 4 ? fell / 5 : 0;
                check.due("MASS of " + klass + " with WIND from " + side, x.told(klass, 1), fell + drift);
            }
        }
    }

    @Holds(promise = "7: told", says = {"(NONE).", "none without."})
    static void whyWithoutIsNone(Check check, Season season) {
        check.due("WHY of bare ground", season.with(0).told(0, WHY), NONE);
        WhiteSlopes one = season.winter(-5, 200);
        check.due("WHY of one LAYER", one.told(0, WHY), NONE);
        WhiteSlopes two = season.winter(-5, 200, 1);
        check.due("WHY of two", two.told(0, WHY), 0);
        two.slide(0, 0);
        check.due("WHY after the SLIDE", two.told(0, WHY), NONE);
    }

    @Holds(promise = "7: told",
        says = {"WHY of a CLASS is the LAYER of the least INDEX, of like ones the highest one;"})
    static void whyOfLikeOnesIsTheHighest(Check check, Season season) {
        WhiteSlopes capped = season.winter(1, 20, 5, 5);
        check.due("999 below", capped.layer(0, 0, INDEX), 999);
        check.due("999 above", capped.layer(0, 1, INDEX), 999);
        check.due("WHY of both", capped.told(0, WHY), 1);
        WhiteSlopes cut = season.winter(-20, 1, 29, 200, 200, 200);
        check.due("4 below", cut.layer(0, 0, INDEX), 4);
        check.due("4 above", cut.layer(0, 1, INDEX), 4);
        check.due("WHY of those", cut.told(0, WHY), 1);
        WhiteSlopes less = season.winter(-20, 1, 20, 200, 200, 200);
        check.due("5 below", less.layer(0, 0, INDEX), 5);
        check.due("4 above it", less.layer(0, 1, INDEX), 4);
        check.due("WHY is the least", less.told(0, WHY), 1);
        WhiteSlopes lowest = season.winter(-5, 10, 20, 30);
        check.due("80 below", lowest.layer(0, 0, INDEX), 80);
        check.due("133 above", lowest.layer(0, 1, INDEX), 133);
        check.due("WHY is the lowest", lowest.told(0, WHY), 0);
    }

    private static void likelyIs(Check check, WhiteSlopes x, int index, int likely) {
        check.due("INDEX", x.layer(0, 0, INDEX), index);
        check.due("LIKELY at " + index, x.told(0, LIKELY), likely);
    }

    @Holds(promise = "7: told", says = "LIKELY is 3 if that INDEX is below 100,")
    static void likely3Below100(Check check, Season season) {
        likelyIs(check, drifted(season, 4, 48, 10), 99, 3);
        likelyIs(check, season.winter(-5, 10, 40), 100, 2);
        likelyIs(check, season.winter(-5, 1, 200, 200), 10, 3);
    }

    @Holds(promise = "7: told", says = "2 below 150,")
    static void likely2Below150(Check check, Season season) {
        likelyIs(check, drifted(season, 7, 37, 10), 149, 2);
        likelyIs(check, drifted(season, 8, 39, 10), 150, 1);
        likelyIs(check, season.winter(-5, 10, 0, 0, 60), 150, 1);
    }

    @Holds(promise = "7: told", says = "1 below 300,")
    static void likely1Below300(Check check, Season season) {
        likelyIs(check, drifted(season, 9, 47, 10, 0, 0), 299, 1);
        likelyIs(check, season.winter(-5, 10, 0, 0, 30), 300, 0);
    }

    @Holds(promise = "7: told", says = "else 0 (and without).")
    static void likely0Without(Check check, Season season) {
        likelyIs(check, season.winter(-5, 10, 1), 999, 0);
        check.due("LIKELY of bare ground", season.with(0).told(0, LIKELY), 0);
        check.due("LIKELY of one LAYER", season.winter(-5, 200).told(0, LIKELY), 0);
    }

    @Holds(promise = "7: told", says = "SIZE is 2 if the LOAD of WHY is 500 or more,")
    static void size2From500On(Check check, Season season) {
        WhiteSlopes below = drifted(season, 7, 39, 10);
        check.due("LOAD 499", below.layer(2, 0, LOAD), 499);
        check.due("SIZE under 499", below.told(2, SIZE), 1);
        check.due("SIZE under 500", season.winter(-5, 10, 50).told(0, SIZE), 2);
        check.due("SIZE under 510", season.winter(-5, 10, 51).told(0, SIZE), 2);
        WhiteSlopes upper = season.winter(-5, 50, 0, 0, 20, 30);
        check.due("LOAD of the lowest", upper.layer(0, 0, LOAD), 500);
        check.due("LOAD of WHY", upper.layer(0, upper.told(0, WHY), LOAD), 300);
        check.due("SIZE by WHY", upper.told(0, SIZE), 1);
    }

    @Holds(promise = "7: told", says = "1 from 200 on, else 0.")
    static void size1From200On(Check check, Season season) {
        WhiteSlopes below = drifted(season, 9, 31, 10);
        check.due("LOAD 199", below.layer(0, 0, LOAD), 199);
        check.due("SIZE under 199", below.told(0, SIZE), 0);
        check.due("SIZE under 200", season.winter(-5, 10, 20).told(0, SIZE), 1);
        check.due("SIZE under 210", season.winter(-5, 10, 21).told(0, SIZE), 1);
        check.due("SIZE of one LAYER", season.winter(-5, 60).told(0, SIZE), 0);
        check.due("SIZE of bare ground", season.with(0).told(0, SIZE), 0);
    }

    @Holds(promise = "7: told", says = "SPREAD is 1 if at that HEIGHT two CLASSES at least are LIKELY 2 or 3.")
    static void spreadFromTwoClassesOn(Check check, Season season) {
        int[] amounts = {27, 41};
        int[] likely = {2, 3};
        for (int i = 0; i < 2; i++) {
            WhiteSlopes x = season.winter(-5, 10, amounts[i]);
            check.due("LIKELY", x.told(4, LIKELY), likely[i]);
            check.due("DANGER of four", x.told(4, DANGER), 2 + likely[i]);
            x.slide(5, 0);
            x.slide(6, 0);
            check.due("DANGER of two", x.told(4, DANGER), 2 + likely[i]);
            check.due("DANGER of the other", x.told(7, DANGER), 2 + likely[i]);
            x.slide(7, 0);
            check.due("DANGER of one", x.told(4, DANGER), 1 + likely[i]);
            check.due("DANGER at another HEIGHT", x.told(3, DANGER), 2 + likely[i]);
        }
    }

    @Holds(promise = "7: told", says = "SPREAD is 1 if at that HEIGHT two CLASSES at least are LIKELY 2 or 3.")
    static void spreadOfLikely2And3Alike(Check check, Season season) {
        WhiteSlopes x = drifted(season, 4, 40, 10);
        x.slide(1, 0);
        x.slide(3, 0);
        check.due("LIKELY in the north", x.told(0, LIKELY), 2);
        check.due("LIKELY in the south", x.told(2, LIKELY), 3);
        check.due("DANGER in the north", x.told(0, DANGER), 4);
        check.due("DANGER in the south", x.told(2, DANGER), 5);
        x.slide(2, 0);
        check.due("DANGER in the north alone", x.told(0, DANGER), 3);
    }

    @Holds(promise = "7: told", says = "SPREAD is 1 if at that HEIGHT two CLASSES at least are LIKELY 2 or 3.")
    static void spreadOfLikely1IsNone(Check check, Season season) {
        WhiteSlopes x = season.winter(-5, 10, 26);
        check.due("LIKELY", x.told(0, LIKELY), 1);
        check.due("DANGER", x.told(0, DANGER), 2);
        WhiteSlopes y = season.winter(-5, 10, 27);
        for (int klass = 0; klass < 12; klass++) {
            if (klass != 3 && klass != 4 && klass != 9) {
                y.slide(klass, 0);
            }
        }
        for (int klass : new int[] {3, 4, 9}) {
            check.due("DANGER of one at each HEIGHT", y.told(klass, DANGER), 3);
        }
    }

    @Holds(promise = "7: told", says = "DANGER of a CLASS: 1 if LIKELY is 0,")
    static void danger1IfLikelyIs0(Check check, Season season) {
        WhiteSlopes large = onCrust(season, 100);
        check.due("LIKELY under 1000", large.told(0, LIKELY), 0);
        check.due("SIZE under 1000", large.told(0, SIZE), 2);
        check.due("DANGER with SIZE 2", large.told(0, DANGER), 1);
        WhiteSlopes middle = season.winter(-5, 10, 0, 0, 30);
        check.due("SIZE under 300", middle.told(0, SIZE), 1);
        check.due("DANGER with SIZE 1", middle.told(0, DANGER), 1);
        check.due("DANGER with SIZE 0", season.winter(-5, 10, 10).told(0, DANGER), 1);
        check.due("DANGER of bare ground", season.with(0).told(0, DANGER), 1);
        WhiteSlopes spread = season.winter(-5, 10, 60);
        spread.slide(0, 0);
        check.due("DANGER with SPREAD", spread.told(0, DANGER), 1);
    }

    /** Each row: SNOW on a LAYER of AGE 1 or 3, so that SIZE is 0, 1 and 2; the CLASS alone, then with others. */
    @Holds(promise = "7: told", says = "else 1 and LIKELY and SPREAD, one more if SIZE is 2, one less if it is 0;")
    static void dangerBySize(Check check, Season season) {
        dangerIs(check, season.winter(-5, 10, 19), 1, 0, 1, 1);
        dangerIs(check, season.winter(-5, 10, 20), 1, 1, 2, 2);
        dangerIs(check, season.winter(-5, 10, 0, 0, 50), 1, 2, 3, 3);
        dangerIs(check, season.winter(-5, 10, 27), 2, 1, 4, 3);
        dangerIs(check, season.winter(-5, 10, 0, 0, 61), 2, 2, 5, 4);
        dangerIs(check, season.winter(-5, 10, 41), 3, 1, 5, 4);
        WhiteSlopes small = season.winterWith(1, -30, 1, 0, 0);
        Season.drift(small, 0, 4, 17);
        check.due("LIKELY 2", small.told(2, LIKELY), 2);
        check.due("SIZE 0", small.told(2, SIZE), 0);
        check.due("DANGER 2", small.told(2, DANGER), 2);
        WhiteSlopes north = drifted(season, 9, 30, 10);
        check.due("LIKELY 1", north.told(0, LIKELY), 1);
        check.due("SIZE 0 in the north", north.told(0, SIZE), 0);
        check.due("DANGER with SPREAD", north.told(0, DANGER), 2);
    }

    private static void dangerIs(Check check, WhiteSlopes x, int likely, int size, int withOthers, int alone) {
        check.due("LIKELY", x.told(0, LIKELY), likely);
        check.due("SIZE", x.told(0, SIZE), size);
        check.due("DANGER with others", x.told(0, DANGER), withOthers);
        for (int klass = 1; klass < 4; klass++) {
            x.slide(klass, 0);
        }
        check.due("DANGER alone", x.told(0, DANGER), alone);
    }

    @Holds(promise = "7: told", says = "1 to 5 always.")
    static void danger1To5(Check check, Season season) {
        WhiteSlopes most = season.winter(-5, 10, 60);
        check.due("LIKELY", most.told(0, LIKELY), 3);
        check.due("SIZE", most.told(0, SIZE), 2);
        check.due("1 and 3 and SPREAD and one more", most.told(0, DANGER), 5);
        WhiteSlopes alone = season.winter(-5, 10, 60);
        for (int klass = 0; klass < 3; klass++) {
            alone.slide(klass, 0);
        }
        check.due("1 and 3 and one more", alone.told(3, DANGER), 5);
        check.due("1 and 1 less one", season.winter(-5, 10, 14).told(0, DANGER), 1);
    }
}
