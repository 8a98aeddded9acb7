/** The bounds of promise 5, go: how many DAYS end, and how each of them ends. */
public final class DayBoundsTest {
    private static final int NONE = WhiteSlopes.NONE;
    private static final int NEW = 0;
    private static final int SETTLED = 1;
    private static final int WEAK = 2;
    private static final int CRUST = 3;

    public static void main(String[] args) throws Exception {
        Bounds.run(DayBoundsTest.class);
    }

    private static void layerIs(Check check, WhiteSlopes x, int klass, int k, int... due) {
        for (int what = 0; what < due.length; what++) {
            check.due("layer(" + klass + ", " + k + ", " + what + ")", x.layer(klass, k, what), due[what]);
        }
    }

    // ---- how many DAYS

    @Holds(promise = "5: go", says = "n DAYS end (0 .. 30;")
    static void from0To30DaysEnd(Check check, Season season) {
        for (int n : new int[] {0, 1, 29, 30}) {
            WhiteSlopes x = season.winterWith(n, -5, 1);
            int before = x.count(0);
            check.due("go(" + n + ")", x.go(n), before + n);
            check.due("count(0)", x.count(0), before + n);
            check.due("AGE after go(" + n + ")", x.layer(0, 0, 2), n);
        }
    }

    @Holds(promise = "5: go", says = {"up to 400): NOW;", "DAYS are 0 .. 400;"})
    static void daysEndUpTo400(Check check, Season season) {
        for (int left : new int[] {0, 1, 29, 30}) {
            WhiteSlopes x = Season.LAST.winterWith(left, 1, 200);
            check.due("NOW with " + left + " to go", x.count(0), 400 - left);
            check.due("go(30) with " + left + " to go", x.go(30), 400);
            check.due("AGE", x.layer(11, 0, 2), left);
            check.due("MELTED on so many DAYS", x.count(3), 12 * 6 * (left + 1));
            check.due("go(0) then", x.go(0), 400);
            check.due("go(1) then", x.go(1), 400);
            check.due("AGE then", x.layer(11, 0, 2), left);
        }
        WhiteSlopes y = season.with(2);
        check.due("go(1)", y.go(1), season == Season.FIRST ? 1 : 399);
        check.due("go(1) again", y.go(1), season == Season.FIRST ? 2 : 400);
        check.due("and again", y.go(1), season == Season.FIRST ? 3 : 400);
    }

    @Holds(promise = "5: go", says = "NONE for another n.")
    static void noneForAnotherN(Check check, Season season) {
        for (int left = 0; left < 2; left++) {
            WhiteSlopes x = season.winterWith(left, -5, 1);
            int before = x.count(0);
            x.snow(0, 2);
            for (int n : new int[] {-1, 31, 32, -30, 400, Integer.MIN_VALUE, Integer.MAX_VALUE}) {
                check.due("go(" + n + ")", x.go(n), NONE);
            }
            check.due("NOW", x.count(0), before);
            check.due("SNOW that fell", x.count(2), 120);
            check.due("AGE", x.layer(0, 0, 2), 0);
        }
    }

    // ---- how a DAY ends

    @Holds(promise = "5: go", says = {"A DAY ends so, in each CLASS: (1) AGES are one more.", "an AGE in DAYS."})
    static void agesAreOneMore(Check check, Season season) {
        WhiteSlopes x = season.winterWith(1, -5, 1, 0, 2);
        for (int klass = 0; klass < 12; klass++) {
            check.due("older one in " + klass, x.layer(klass, 0, 2), 2);
            check.due("younger one in " + klass, x.layer(klass, 1, 2), 0);
        }
        x.go(1);
        for (int klass = 0; klass < 12; klass++) {
            check.due("older one later in " + klass, x.layer(klass, 0, 2), 3);
            check.due("younger one later in " + klass, x.layer(klass, 1, 2), 1);
        }
        WhiteSlopes oldest = Season.FIRST.winter(-5, 1);
        Season.rest(oldest, 399);
        check.due("the greatest AGE", oldest.layer(0, 0, 2), 399);
        check.due("its NOW", oldest.count(0), 400);
    }

    @Holds(promise = "5: go",
        says = "(2) SNOW: if it is above 0, a NEW LAYER of the MASS 10 times SNOW lies on top, AGE 0;")
    static void snowAbove0(Check check, Season season) {
        WhiteSlopes none = season.winter(-5, 0);
        check.due("LAYERS under SNOW 0", none.told(0, 0), 0);
        WhiteSlopes noneMore = season.winter(-5, 3, 0);
        check.due("LAYERS under SNOW 0 on others", noneMore.told(11, 0), 1);
        WhiteSlopes least = season.winter(-5, 3, 1);
        check.due("LAYERS under SNOW 1", least.told(0, 0), 2);
        layerIs(check, least, 0, 0, NEW, 30, 1);
        layerIs(check, least, 0, 1, NEW, 10, 0);
        WhiteSlopes most = season.winter(-5, 200);
        layerIs(check, most, 11, 0, NEW, 2000, 0);
    }

    @Holds(promise = "5: go",
        says = {"Each has LAYERS from the ground up, at most 10:",
            "if there are 10 LAYERS, the two lowest ones are one then"})
    static void tenLayersAtMost(Check check, Season season) {
        WhiteSlopes nine = season.winter(-20, 1, 2, 3, 4, 5, 6, 7, 8, 9);
        check.due("after nine", nine.told(0, 0), 9);
        WhiteSlopes x = season.winterWith(3, -20, 1, 2, 3, 4, 5, 6, 7, 8, 9, 10);
        check.due("after ten", x.told(0, 0), 10);
        check.due("the lowest of ten", x.layer(0, 0, 1), 10);
        check.due("the second of ten", x.layer(0, 1, 1), 20);
        Season.fall(x, 0);
        check.due("SNOW 0 joins none", x.told(0, 0), 10);
        check.due("the lowest still", x.layer(0, 0, 1), 10);
        Season.fall(x, 11);
        check.due("after eleven", x.told(0, 0), 10);
        check.due("the lowest two", x.layer(0, 0, 1), 30);
        for (int k = 1; k < 10; k++) {
            check.due("LAYER " + k, x.layer(0, k, 1), 10 * (k + 2));
        }
        Season.fall(x, 12);
        check.due("after twelve", x.told(0, 0), 10);
        check.due("the lowest three", x.layer(0, 0, 1), 60);
        check.due("the top one", x.layer(0, 9, 1), 120);
        check.due("all MASS is there", x.told(0, 1), 780);
    }

    @Holds(promise = "5: go", says = "(the KIND of the upper one of both, the greater AGE).")
    static void twoLowestAreOne(Check check, Season season) {
        WhiteSlopes x = season.winterWith(10, -20, 10);
        Season.warm(x, 1);
        Season.fall(x, 10);
        Season.warm(x, -20);
        Season.fall(x, 1, 1, 1, 1, 1, 1, 1, 1);
        layerIs(check, x, 0, 0, WEAK, 100, 9);
        layerIs(check, x, 0, 1, CRUST, 94, 8);
        Season.fall(x, 1);
        layerIs(check, x, 0, 0, CRUST, 194, 10);
        layerIs(check, x, 0, 1, WEAK, 10, 8);
        WhiteSlopes y = season.winterWith(1, 1, 10, 1, 2, 2, 2, 2, 2, 2, 2, 2);
        layerIs(check, y, 0, 0, CRUST, 94, 9);
        Season.fall(y, 2);
        layerIs(check, y, 0, 0, CRUST, 98, 10);
    }

    @Holds(promise = "5: go", says = "(3) All CLASSES are through (2):")
    static void allSnowFallsAheadOfTheWind(Check check, Season season) {
        for (int side = 0; side < 4; side++) {
            WhiteSlopes x = season.winterWith(1, 1, 10);
            Season.warm(x, -5);
            Season.drift(x, side, 5, 10);
            for (int height = 0; height < 3; height++) {
                int to = 4 * height + (side + 2) % 4;
                check.due("LAYERS of " + to, x.told(to, 0), 2);
                layerIs(check, x, to, 1, NEW, 120, 0);
                layerIs(check, x, 4 * height + side, 1, NEW, 80, 0);
            }
        }
    }

    @Holds(promise = "5: go",
        says = {"WIND with a FORCE above 3:",
            "FORCE times 4 parts of 100 of that LAYER's MASS (cut) go to the CLASS of the side opposite:"})
    static void forceAbove3(Check check, Season season) {
        int[] gone = {0, 0, 0, 0, 17, 22, 26, 30, 35, 39};
        for (int force = 0; force < 10; force++) {
            WhiteSlopes x = season.with(1);
            Season.drift(x, 1, force, 11);
            check.due("FORCE " + force + " from", x.told(1, 1), 110 - gone[force]);
            check.due("FORCE " + force + " to", x.told(3, 1), 110 + gone[force]);
            check.due("FORCE " + force + " beside", x.told(0, 1) + x.told(2, 1), 220);
        }
        WhiteSlopes top = season.winterWith(1, -5, 20);
        Season.drift(top, 0, 4, 10);
        layerIs(check, top, 0, 0, NEW, 200, 1);
        layerIs(check, top, 0, 1, NEW, 84, 0);
    }

    @Holds(promise = "5: go",
        says = "at each HEIGHT, from the CLASS of the SIDE from which it comes, if its top LAYER is NEW,")
    static void windTakesFromANewTopAlone(Check check, Season season) {
        WhiteSlopes stillNew = season.winterWith(3, -5, 10);
        stillNew.go(2);
        stillNew.wind(0, 5);
        stillNew.go(1);
        for (int klass = 0; klass < 12; klass += 4) {
            check.due("NEW until the wind is through, " + klass, stillNew.told(klass, 1), 80);
            check.due("where it went, " + klass, stillNew.told(klass + 2, 1), 120);
        }
        int[] degrees = {-5, -20, 1};
        int[] kinds = {SETTLED, WEAK, CRUST};
        for (int i = 0; i < 3; i++) {
            WhiteSlopes x = season.winterWith(1, degrees[i], 20, 0, 0, 0);
            Season.warm(x, -5);
            check.due("KIND of the top", x.layer(0, 0, 0), kinds[i]);
            int before = x.told(0, 1);
            x.wind(0, 9);
            x.go(1);
            check.due("from KIND " + kinds[i], x.told(0, 1), before);
            check.due("to KIND " + kinds[i], x.told(2, 1), before);
        }
        WhiteSlopes bare = season.with(1);
        bare.wind(0, 9);
        bare.go(1);
        check.due("from bare ground", bare.told(2, 0), 0);
        WhiteSlopes onNew = season.winterWith(1, -5, 20, 0, 0, 10);
        onNew.slide(0, 0);
        onNew.wind(0, 9);
        onNew.go(1);
        layerIs(check, onNew, 0, 0, SETTLED, 200, 4);
        layerIs(check, onNew, 2, 1, NEW, 100, 1);
    }

    @Holds(promise = "5: go", says = "to its top LAYER, if that is NEW, else as a NEW LAYER")
    static void windGivesToANewTopOrMakesOne(Check check, Season season) {
        WhiteSlopes onNew = season.winterWith(1, -5, 10);
        onNew.wind(0, 9);
        onNew.go(1);
        check.due("on NEW: LAYERS", onNew.told(2, 0), 1);
        layerIs(check, onNew, 2, 0, NEW, 136, 1);
        driftOnOtherKinds(check, season, -5, SETTLED);
        driftOnOtherKinds(check, season, -20, WEAK);
        driftOnOtherKinds(check, season, 1, CRUST);
    }

    private static void driftOnOtherKinds(Check check, Season season, int degrees, int kind) {
        WhiteSlopes x = season.winterWith(2, degrees, 20, 0, 0, 0);
        Season.warm(x, -5);
        Season.fall(x, 10);
        x.slide(2, 0);
        layerIs(check, x, 2, 0, kind);
        int below = x.layer(2, 0, 1);
        x.wind(0, 9);
        x.go(1);
        check.due("LAYERS on KIND " + kind, x.told(2, 0), 2);
        layerIs(check, x, 2, 0, kind, below);
        layerIs(check, x, 2, 1, NEW, 36, 0);
        layerIs(check, x, 0, 1, NEW, 64, 1);
    }

    /** The south MELTED away, while a SLIDE took the CRUST off the NEW LAYER of 27 in the north. */
    private static WhiteSlopes bareInTheSouth(Season season) {
        WhiteSlopes x = season.with(4);
        Season.drift(x, 2, 9, 2);
        Season.fall(x, 20);
        x.slide(2, 0);
        Season.warm(x, 10);
        x.go(1);
        x.slide(0, 0);
        Season.warm(x, -5);
        return x;
    }

    @Holds(promise = "5: go", says = {"to its top LAYER, if that is NEW, else as a NEW LAYER",
        "from the CLASS of the SIDE from which it comes, if its top LAYER is NEW,"})
    static void windToAndFromBareGround(Check check, Season season) {
        WhiteSlopes to = bareInTheSouth(season);
        check.due("LAYERS in the south", to.told(2, 0), 0);
        layerIs(check, to, 0, 0, NEW, 27, 2);
        to.wind(0, 9);
        to.go(1);
        check.due("LAYERS that came to the south", to.told(2, 0), 1);
        layerIs(check, to, 2, 0, NEW, 9, 0);
        layerIs(check, to, 0, 0, SETTLED, 18, 3);
        WhiteSlopes from = bareInTheSouth(season);
        from.wind(2, 9);
        from.go(1);
        check.due("LAYERS in the south still", from.told(2, 0), 0);
        layerIs(check, from, 0, 0, SETTLED, 27, 3);
    }

    /** 7 gives 16 parts of 100 to the other side, which is 1; 6 gives nothing. */
    @Holds(promise = "5: go", says = "(if it is above 0; as in (2)).")
    static void noLayerOfNothing(Check check, Season season) {
        WhiteSlopes x = season.winterWith(3, -5, 10, 0, 0);
        Season.drift(x, 0, 9, 1);
        layerIs(check, x, 0, 1, NEW, 7, 0);
        layerIs(check, x, 2, 1, NEW, 13, 0);
        x.slide(2, 0);
        x.wind(0, 4);
        x.go(1);
        check.due("LAYERS after 1 came", x.told(2, 0), 2);
        layerIs(check, x, 2, 1, NEW, 1, 0);
        layerIs(check, x, 0, 1, NEW, 6, 1);
        x.slide(2, 0);
        x.wind(0, 4);
        x.go(1);
        check.due("LAYERS after nothing came", x.told(2, 0), 1);
        layerIs(check, x, 0, 1, NEW, 6, 2);
    }

    /** South has ten LAYERS with no NEW one on top, north a NEW one of 3 that came from there. */
    private static WhiteSlopes tenBelowTheWind(Season season) {
        WhiteSlopes x = season.winterWith(4, -5, 2, 3, 4, 5, 6, 7, 8, 9, 10, 1);
        x.go(2);
        x.slide(0, 0);
        x.wind(2, 9);
        x.go(1);
        return x;
    }

    @Holds(promise = "5: go",
        says = {"(if it is above 0; as in (2)).", "if there are 10 LAYERS, the two lowest ones are one then"})
    static void windOnTenLayers(Check check, Season season) {
        WhiteSlopes x = tenBelowTheWind(season);
        check.due("LAYERS in the south", x.told(2, 0), 10);
        layerIs(check, x, 2, 9, SETTLED, 7, 3);
        layerIs(check, x, 0, 1, NEW, 3, 0);
        x.wind(0, 9);
        x.go(1);
        check.due("LAYERS after 1 came", x.told(2, 0), 10);
        layerIs(check, x, 2, 0, SETTLED, 50, 13);
        layerIs(check, x, 2, 1, SETTLED, 40, 11);
        layerIs(check, x, 2, 8, SETTLED, 7, 4);
        layerIs(check, x, 2, 9, NEW, 1, 0);
        WhiteSlopes y = tenBelowTheWind(season);
        y.wind(0, 4);
        y.go(1);
        check.due("LAYERS after nothing came", y.told(2, 0), 10);
        layerIs(check, y, 2, 0, SETTLED, 20, 13);
        layerIs(check, y, 2, 9, SETTLED, 7, 4);
    }

    @Holds(promise = "5: go",
        says = {"(4) NEW LAYERS of an AGE of 3 or more are SETTLED,", "a KIND (0 NEW, 1 SETTLED, 2 WEAK, 3 CRUST),"})
    static void newUntilAge3(Check check, Season season) {
        int[] degrees = {-5, -20};
        int[] kinds = {SETTLED, WEAK};
        for (int i = 0; i < 2; i++) {
            WhiteSlopes x = season.winterWith(1, degrees[i], 10, 11, 12);
            layerIs(check, x, 7, 0, NEW, 100, 2);
            x.go(1);
            layerIs(check, x, 7, 0, kinds[i], 100, 3);
            layerIs(check, x, 7, 1, NEW, 110, 2);
            layerIs(check, x, 7, 2, NEW, 120, 1);
        }
    }

    @Holds(promise = "5: go", says = "if WARMTH is above -8,")
    static void settledAboveMinus8(Check check, Season season) {
        int[] degrees = {-30, -9, -8, -7, 0};
        int[] kinds = {WEAK, WEAK, WEAK, SETTLED, SETTLED};
        for (int i = 0; i < degrees.length; i++) {
            // The WARMTH of the DAY on which AGE 3 is reached counts, that of others doesn't.
            WhiteSlopes x = season.winterWith(2, i < 3 ? -5 : -20, 10, 0, 0);
            Season.warm(x, degrees[i]);
            x.go(1);
            check.due("KIND at " + degrees[i], x.layer(0, 0, 0), kinds[i]);
            Season.warm(x, i < 3 ? -5 : -20);
            x.go(1);
            check.due("KIND later", x.layer(0, 0, 0), kinds[i]);
        }
    }

    @Holds(promise = "5: go", says = "else WEAK, if their MASS is below 300, else SETTLED;")
    static void weakBelow300(Check check, Season season) {
        int[] amounts = {1, 29, 30, 31, 200};
        int[] kinds = {WEAK, WEAK, SETTLED, SETTLED, SETTLED};
        for (int i = 0; i < amounts.length; i++) {
            WhiteSlopes x = season.winter(-8, amounts[i], 0, 0, 0);
            layerIs(check, x, 0, 0, kinds[i], 10 * amounts[i]);
        }
        WhiteSlopes edge = season.with(4);
        Season.warm(edge, -30);
        Season.drift(edge, 0, 9, 22);
        edge.go(3);
        layerIs(check, edge, 2, 0, WEAK, 299);
        WhiteSlopes over = season.with(4);
        Season.warm(over, -30);
        Season.drift(over, 0, 4, 26);
        over.go(3);
        layerIs(check, over, 2, 0, SETTLED, 301);
        WhiteSlopes thatDay = season.winterWith(1, -8, 40, 0, 0);
        thatDay.wind(0, 9);
        thatDay.go(1);
        layerIs(check, thatDay, 0, 0, WEAK, 256);
        layerIs(check, thatDay, 2, 0, SETTLED, 544);
    }

    @Holds(promise = "5: go", says = "WEAK ones of an AGE of 20 or more are SETTLED.")
    static void weakUntilAge20(Check check, Season season) {
        WhiteSlopes x = season.winterWith(20, -20, 10);
        Season.rest(x, 19);
        layerIs(check, x, 0, 0, WEAK, 100, 19);
        x.go(1);
        layerIs(check, x, 0, 0, SETTLED, 100, 20);
    }

    /** The two lowest are one with the AGE of the lower: 23, where the upper one was WEAK at 18. */
    @Holds(promise = "5: go", says = "WEAK ones of an AGE of 20 or more are SETTLED.")
    static void weakBeyondAge20(Check check, Season season) {
        WhiteSlopes x = season.winterWith(24, -20, 10, 0, 0, 0, 0);
        Season.fall(x, 11, 0, 0, 0, 0, 0, 0, 0, 0, 0, 1, 1, 1, 1, 1, 1, 1, 1);
        layerIs(check, x, 0, 0, SETTLED, 100, 22);
        layerIs(check, x, 0, 1, WEAK, 110, 17);
        check.due("LAYERS", x.told(0, 0), 10);
        Season.fall(x, 1);
        layerIs(check, x, 0, 0, SETTLED, 210, 23);
        layerIs(check, x, 0, 1, WEAK, 10, 8);
    }

    @Holds(promise = "5: go",
        says = {"WEAK ones of an AGE of 20 or more are SETTLED.", "and the top LAYER that is left is CRUST."})
    static void crustStaysAtAnyAge(Check check, Season season) {
        WhiteSlopes x = season.winterWith(21, 1, 10);
        Season.warm(x, -20);
        Season.rest(x, 21);
        layerIs(check, x, 0, 0, CRUST, 94, 21);
    }

    @Holds(promise = "5: go", says = "(5) If WARMTH is above 0, 6 times WARMTH of MASS MELTS from the top")
    static void meltsAbove0(Check check, Season season) {
        int[] degrees = {-30, -1, 0, 1, 2, 10};
        int[] masses = {100, 100, 100, 94, 88, 40};
        for (int i = 0; i < degrees.length; i++) {
            WhiteSlopes x = season.winterWith(1, -5, 20, 10);
            Season.warm(x, degrees[i]);
            x.go(1);
            layerIs(check, x, 0, 1, degrees[i] > 0 ? CRUST : NEW, masses[i], 1);
            layerIs(check, x, 0, 0, NEW, 200, 2);
            check.due("MELTED at " + degrees[i], x.count(3), 12 * (100 - masses[i]));
        }
    }

    @Holds(promise = "5: go", says = "(LAYERS that have none left go),")
    static void layersWithNoneLeftGo(Check check, Season season) {
        WhiteSlopes more = season.winterWith(1, -5, 20, 7);
        Season.warm(more, 10);
        more.go(1);
        layerIs(check, more, 0, 1, CRUST, 10, 1);
        WhiteSlopes just = season.winterWith(1, -5, 20, 6);
        Season.warm(just, 10);
        just.go(1);
        check.due("LAYERS where just it MELTED", just.told(0, 0), 1);
        layerIs(check, just, 0, 0, CRUST, 200, 2);
        WhiteSlopes less = season.winterWith(1, -5, 20, 2, 3);
        Season.warm(less, 10);
        less.go(1);
        check.due("LAYERS where two MELTED and more", less.told(0, 0), 1);
        layerIs(check, less, 0, 0, CRUST, 190, 3);
        WhiteSlopes byOne = season.with(3);
        Season.drift(byOne, 0, 9, 1);
        byOne.wind(2, 9);
        byOne.go(1);
        layerIs(check, byOne, 0, 0, NEW, 11, 1);
        Season.warm(byOne, 1);
        byOne.go(1);
        layerIs(check, byOne, 0, 0, CRUST, 5, 2);
        check.due("9 less 6 in the south", byOne.layer(2, 0, 1), 3);
    }

    @Holds(promise = "5: go", says = {"(LAYERS that have none left go),", "and the top LAYER that is left is CRUST."})
    static void meltsNoMoreThanThereIs(Check check, Season season) {
        WhiteSlopes just = season.winterWith(2, -5, 6);
        Season.warm(just, 10);
        just.go(1);
        check.due("LAYERS where all MELTED", just.told(0, 0), 0);
        check.due("MELTED, just all", just.count(3), 12 * 60);
        just.go(1);
        check.due("MELTED from bare ground", just.count(3), 12 * 60);
        WhiteSlopes less = season.winterWith(1, -5, 2, 3);
        Season.warm(less, 10);
        less.go(1);
        check.due("LAYERS where less was", less.told(0, 0), 0);
        check.due("MELTED, less", less.count(3), 12 * 50);
        check.due("MASS left", less.count(1), 0);
        WhiteSlopes onTop = season.winterWith(1, -5, 20, 30);
        Season.warm(onTop, 1);
        onTop.go(1);
        layerIs(check, onTop, 0, 1, CRUST, 294, 1);
        layerIs(check, onTop, 0, 0, NEW, 200, 2);
    }

    /** Also a LAYER that is SETTLED or WEAK by (4) on that DAY is CRUST by (5), and SNOW MELTS on its own DAY. */
    @Holds(promise = "5: go", says = "and the top LAYER that is left is CRUST.")
    static void crustOfEveryKind(Check check, Season season) {
        int[] before = {-5, -20};
        for (int degrees : before) {
            WhiteSlopes x = season.winterWith(2, degrees, 20, 0, 0);
            x.go(1);
            Season.warm(x, 1);
            x.go(1);
            layerIs(check, x, 0, 0, CRUST, 194, 4);
        }
        WhiteSlopes x = season.winterWith(1, -5, 20, 0, 0);
        Season.warm(x, 1);
        x.go(1);
        layerIs(check, x, 0, 0, CRUST, 194, 3);
        layerIs(check, season.winter(1, 1), 0, 0, CRUST, 4, 0);
    }

    @Holds(promise = "5: go", says = "NOW is one more; GAPS and FORCE 0 again.")
    static void gapsAndForce0Again(Check check, Season season) {
        WhiteSlopes x = season.with(3);
        int before = x.count(0);
        x.wind(0, 9);
        x.snow(0, 1);
        x.snow(1, 2);
        x.snow(2, 3);
        x.go(1);
        check.due("NOW", x.count(0), before + 1);
        check.due("fallen", x.count(2), 4 * 60);
        check.due("drifted", x.told(8, 1), 20);
        x.go(1);
        check.due("fallen on the next DAY", x.count(2), 4 * 60);
        check.due("drifted on the next DAY", x.told(8, 1), 20);
        x.snow(1, 5);
        x.go(1);
        check.due("SNOW at HEIGHT 0 was a GAP again", x.told(1, 1), 10 + 50);
        check.due("and at HEIGHT 2", x.told(9, 1), 30 + 50);
    }
}
