/** Promises 1 to 5: a new object, snow, warmth, wind, go. */
public final class WeatherTest {
    private static final Check CHECK = new Check("WeatherTest");

    public static void main(String[] args) {
        newObject();
        snowIsTold();
        snowGaps();
        snowRefused();
        warmthIsTold();
        warmthGaps();
        warmthRefused();
        windDrifts();
        windOnOldSnow();
        windMakesLayers();
        windRefused();
        daysEnd();
        layersAreJoined();
        kindsChange();
        weakOnesGrowStrong();
        snowMelts();
        lastDay();
        CHECK.finish();
    }

    private static void newObject() {
        WhiteSlopes x = new WhiteSlopes();
        CHECK.due("NONE", WhiteSlopes.NONE, -1);
        for (int klass = 0; klass < 12; klass++) {
            CHECK.due("new told(" + klass + ", 0)", x.told(klass, 0), 0);
            CHECK.due("new told(" + klass + ", 1)", x.told(klass, 1), 0);
        }
        for (int what = 0; what < 8; what++) {
            CHECK.due("new count(" + what + ")", x.count(what), what == 5 ? 1 : 0);
        }
        CHECK.due("new go(1)", x.go(1), 1);
        CHECK.due("no snow fell", x.count(2), 0);
        Check.snowDays(x, 10);
        WhiteSlopes other = new WhiteSlopes();
        CHECK.due("objects share nothing", other.count(1), 0);
        CHECK.due("objects share no day", other.count(0), 0);
    }

    private static void snowIsTold() {
        WhiteSlopes x = new WhiteSlopes();
        CHECK.due("snow(0, 0)", x.snow(0, 0), true);
        CHECK.due("snow(1, 200)", x.snow(1, 200), true);
        CHECK.due("snow(2, 7)", x.snow(2, 7), true);
        CHECK.due("snow(2, 3)", x.snow(2, 3), true);
        CHECK.due("told, not fallen", x.count(2), 0);
        x.go(1);
        int[] masses = {0, 2000, 30};
        for (int klass = 0; klass < 12; klass++) {
            CHECK.due("snow mass of " + klass, x.told(klass, 1), masses[klass / 4]);
            CHECK.due("snow layers of " + klass, x.told(klass, 0), masses[klass / 4] == 0 ? 0 : 1);
        }
        x.go(1);
        CHECK.due("snow is of one day", x.count(2), 4 * 2030);
    }

    private static void snowGaps() {
        WhiteSlopes x = new WhiteSlopes();
        x.snow(0, 3);
        x.snow(2, 4);
        x.go(1);
        CHECK.due("mean of two, cut", x.told(4, 1), 30);
        x.snow(1, 5);
        x.go(1);
        CHECK.due("mean of one", x.told(8, 1), 40 + 50);
        x.snow(0, 9);
        x.snow(1, 0);
        CHECK.due("snow(0, NONE)", x.snow(0, WhiteSlopes.NONE), true);
        x.go(1);
        CHECK.due("a gap again", x.told(0, 1), 30 + 50);
        x.snow(1, 9);
        x.snow(0, 0);
        x.go(1);
        CHECK.due("told 0 counts in the mean", x.told(8, 1), 90 + 40);
        CHECK.due("told 0 is no gap", x.told(0, 1), 80);
        for (int height = 0; height < 3; height++) {
            WhiteSlopes first = new WhiteSlopes();
            first.snow(height, 5);
            first.go(1);
            CHECK.due("gaps at first, but for " + height, first.count(2), 12 * 50);
        }
    }

    private static void snowRefused() {
        WhiteSlopes x = new WhiteSlopes();
        x.snow(0, 6);
        int[][] wrong = {{-1, 5}, {3, 5}, {0, -2}, {0, 201}, {Integer.MIN_VALUE, 5}, {Integer.MAX_VALUE, 5},
            {0, Integer.MIN_VALUE}, {0, Integer.MAX_VALUE}, {3, -1}, {0, -100}};
        for (int[] w : wrong) {
            CHECK.due("snow(" + w[0] + ", " + w[1] + ")", x.snow(w[0], w[1]), false);
        }
        x.go(1);
        CHECK.due("refused snow changes nothing", x.count(2), 12 * 60);
    }

    private static void warmthIsTold() {
        WhiteSlopes x = Check.winter(-5, 50);
        CHECK.due("warmth(0, 10)", x.warmth(0, 10), true);
        CHECK.due("warmth(1, -30)", x.warmth(1, -30), true);
        CHECK.due("warmth(2, 9)", x.warmth(2, 9), true);
        CHECK.due("warmth(2, 1)", x.warmth(2, 1), true);
        x.go(1);
        CHECK.due("10 melts", x.told(3, 1), 440);
        CHECK.due("-30 does not", x.told(4, 1), 500);
        CHECK.due("the last word counts", x.told(11, 1), 494);
    }

    private static void warmthGaps() {
        WhiteSlopes x = new WhiteSlopes();
        x.snow(0, 10);
        x.go(4);
        CHECK.due("-5 ahead of day 0 settles", x.layer(0, 0, 0), 1);
        x.warmth(0, 2);
        x.go(2);
        CHECK.due("warmth goes on", x.told(0, 1), 100 - 24);
        CHECK.due("at its height alone", x.told(4, 1), 100);
        x.warmth(0, 10);
        CHECK.due("warmth(0, -100)", x.warmth(0, -100), true);
        x.go(1);
        CHECK.due("a gap again", x.told(0, 1), 100 - 36);
        x.warmth(0, 0);
        x.go(2);
        CHECK.due("0 melts nothing", x.told(0, 1), 100 - 36);
    }

    private static void warmthRefused() {
        WhiteSlopes x = Check.winter(-5, 10);
        x.warmth(0, 1);
        int[][] wrong = {{-1, 5}, {3, 5}, {0, -31}, {0, 11}, {0, -99}, {0, -101}, {3, -100},
            {Integer.MIN_VALUE, 0}, {Integer.MAX_VALUE, 0}, {0, Integer.MIN_VALUE}, {0, Integer.MAX_VALUE}};
        for (int[] w : wrong) {
            CHECK.due("warmth(" + w[0] + ", " + w[1] + ")", x.warmth(w[0], w[1]), false);
        }
        x.go(1);
        CHECK.due("refused warmth changes nothing", x.told(0, 1), 94);
    }

    private static void windDrifts() {
        for (int side = 0; side < 4; side++) {
            for (int force = 0; force <= 9; force++) {
                WhiteSlopes x = new WhiteSlopes();
                x.snow(0, 11);
                CHECK.due("wind(" + side + ", " + force + ")", x.wind(side, force), true);
                x.go(2);
                int gone = force > 3 ? 110 * force * 4 / 100 : 0;
                for (int klass = 0; klass < 12; klass++) {
                    int change = klass % 4 == side ? -gone : klass % 4 == (side + 2) % 4 ? gone : 0;
                    CHECK.due("wind " + side + " " + force + " at " + klass, x.told(klass, 1), 110 + change);
                    CHECK.due("one layer at " + klass, x.told(klass, 0), 1);
                }
                CHECK.due("wind keeps mass", x.count(1), x.count(2));
            }
        }
    }

    private static void windOnOldSnow() {
        WhiteSlopes x = Check.winter(-5, 10);
        x.go(2);
        x.wind(0, 5);
        x.go(1);
        CHECK.due("new until changed this day", x.told(0, 1), 80);
        CHECK.due("then settled", x.layer(0, 0, 0), 1);
        CHECK.due("the drift joined the new top", x.told(2, 0), 1);
        x.wind(0, 9);
        x.go(1);
        CHECK.due("settled snow stays", x.told(0, 1), 80);
        x.snow(0, 10);
        x.wind(0, 9);
        x.wind(2, 4);
        x.go(1);
        CHECK.due("the last wind counts", x.told(2, 1), 120 + 84);
        x.snow(0, 1);
        x.wind(1, 9);
        x.wind(1, 0);
        x.go(1);
        CHECK.due("force 0 again", x.layer(1, 2, 1), 10);
    }

    private static void windMakesLayers() {
        WhiteSlopes x = Check.winter(-5, 10);
        x.slide(0, 0);
        x.warmth(0, 10);
        x.go(2);
        CHECK.due("all melted", x.told(0, 0), 0);
        x.warmth(0, -5);
        x.wind(0, 9);
        x.go(1);
        CHECK.due("no wind from bare ground", x.told(2, 0), 0);
        WhiteSlopes y = Check.winter(-5, 10);
        y.go(1);
        y.snow(0, 10);
        y.warmth(0, 1);
        y.go(1);
        CHECK.due("crust on top", y.layer(0, 1, 0), 3);
        y.wind(0, 9);
        y.go(1);
        CHECK.due("nothing from crust", y.told(2, 1), 200 - 12);
        driftOnOtherKinds();
    }

    /** A slide leaves settled snow in class 2, while class 0 keeps its new top. */
    private static void driftOnOtherKinds() {
        WhiteSlopes x = Check.winter(-5, 10, 0, 0, 1);
        CHECK.due("settled", x.layer(2, 0, 0), 1);
        x.slide(2, 0);
        x.wind(0, 9);
        x.go(1);
        CHECK.due("a layer of the drift", x.told(2, 0), 2);
        CHECK.due("its kind", x.layer(2, 1, 0), 0);
        CHECK.due("its mass", x.layer(2, 1, 1), 3);
        CHECK.due("its age", x.layer(2, 1, 2), 0);
        CHECK.due("what is left", x.layer(0, 1, 1), 7);
        x.slide(0, 0);
        x.wind(2, 9);
        x.go(1);
        CHECK.due("one of three", x.layer(0, 1, 1), 1);
        CHECK.due("a load of one", x.layer(0, 0, 3), 1);
        CHECK.due("has an index", x.layer(0, 0, 4), 999);
        x.slide(2, 0);
        x.wind(0, 9);
        x.go(1);
        CHECK.due("nothing makes no layer", x.told(2, 0), 1);
    }

    private static void windRefused() {
        WhiteSlopes x = new WhiteSlopes();
        x.snow(0, 10);
        x.wind(0, 5);
        int[][] wrong = {{-1, 5}, {4, 5}, {0, -1}, {0, 10}, {Integer.MIN_VALUE, 0}, {Integer.MAX_VALUE, 0},
            {0, Integer.MIN_VALUE}, {0, Integer.MAX_VALUE}};
        for (int[] w : wrong) {
            CHECK.due("wind(" + w[0] + ", " + w[1] + ")", x.wind(w[0], w[1]), false);
        }
        x.go(1);
        CHECK.due("refused wind changes nothing", x.told(0, 1), 80);
    }

    private static void daysEnd() {
        WhiteSlopes x = new WhiteSlopes();
        x.snow(0, 10);
        x.wind(0, 9);
        CHECK.due("go(0)", x.go(0), 0);
        CHECK.due("go(0) ends no day", x.count(2), 0);
        int[] wrong = {-1, 31, Integer.MIN_VALUE, Integer.MAX_VALUE};
        for (int n : wrong) {
            CHECK.due("go(" + n + ")", x.go(n), -1);
        }
        CHECK.due("go refused changes nothing", x.count(0), 0);
        CHECK.due("go(2)", x.go(2), 2);
        CHECK.due("wind of one day", x.told(0, 1), 64);
        CHECK.due("age", x.layer(0, 0, 2), 1);
        CHECK.due("go(30)", x.go(30), 32);
        CHECK.due("age later", x.layer(0, 0, 2), 31);
    }

    private static void layersAreJoined() {
        WhiteSlopes x = Check.winter(-20, 1, 2, 3, 4, 5, 6, 7, 8, 9, 10);
        CHECK.due("ten layers", x.told(0, 0), 10);
        CHECK.due("lowest", x.layer(0, 0, 1), 10);
        Check.snowDays(x, 11);
        CHECK.due("ten still", x.told(0, 0), 10);
        CHECK.due("two are one", x.layer(0, 0, 1), 30);
        CHECK.due("the greater age", x.layer(0, 0, 2), 10);
        for (int k = 1; k < 10; k++) {
            CHECK.due("mass of " + k, x.layer(0, k, 1), 10 * (k + 2));
            CHECK.due("age of " + k, x.layer(0, k, 2), 9 - k);
            CHECK.due("kind of " + k, x.layer(0, k, 0), k < 7 ? 2 : 0);
        }
        WhiteSlopes y = Check.winter(-20, 10);
        y.warmth(0, 1);
        Check.snowDays(y, 10);
        CHECK.due("lower is new", y.layer(0, 0, 0), 0);
        CHECK.due("upper is crust", y.layer(0, 1, 0), 3);
        y.warmth(0, -20);
        Check.snowDays(y, 1, 1, 1, 1, 1, 1, 1, 1);
        CHECK.due("lower is weak", y.layer(0, 0, 0), 2);
        Check.snowDays(y, 1);
        CHECK.due("the kind of the upper one", y.layer(0, 0, 0), 3);
        CHECK.due("mass of both", y.layer(0, 0, 1), 194);
        CHECK.due("all mass", y.count(1), y.count(2) - y.count(3));
    }

    private static void kindsChange() {
        int[] amounts = {29, 30, 31, 29};
        int[] degrees = {-8, -8, -30, -7};
        int[] kinds = {2, 1, 1, 1};
        for (int i = 0; i < amounts.length; i++) {
            WhiteSlopes x = Check.winter(degrees[i], amounts[i], 0, 0);
            CHECK.due("new at age 2", x.layer(0, 0, 0), 0);
            x.go(1);
            CHECK.due("changed at age 3, case " + i, x.layer(0, 0, 0), kinds[i]);
        }
        WhiteSlopes y = Check.winter(-20, 10, 0, 0);
        y.warmth(0, -7);
        y.go(1);
        CHECK.due("the warmth of that day", y.layer(0, 0, 0), 1);
        CHECK.due("elsewhere cold", y.layer(4, 0, 0), 2);
        WhiteSlopes z = Check.winter(-20, 40, 0, 0);
        z.wind(0, 9);
        z.go(1);
        CHECK.due("light after the drift", z.layer(0, 0, 1), 256);
        CHECK.due("so weak", z.layer(0, 0, 0), 2);
        CHECK.due("heavy", z.layer(2, 0, 0), 1);
        WhiteSlopes edge = new WhiteSlopes();
        edge.warmth(0, -20);
        edge.wind(0, 9);
        Check.snowDays(edge, 22, 0, 0, 0);
        CHECK.due("299 and", edge.layer(2, 0, 1), 299);
        CHECK.due("weak", edge.layer(2, 0, 0), 2);
    }

    private static void weakOnesGrowStrong() {
        WhiteSlopes x = Check.winter(-20, 10);
        x.go(19);
        CHECK.due("age 19", x.layer(0, 0, 2), 19);
        CHECK.due("weak", x.layer(0, 0, 0), 2);
        x.go(1);
        CHECK.due("settled at 20", x.layer(0, 0, 0), 1);
    }

    private static void snowMelts() {
        WhiteSlopes x = Check.winter(-5, 10, 3, 3);
        x.warmth(0, 10);
        x.go(1);
        CHECK.due("two layers went whole", x.told(0, 0), 1);
        CHECK.due("the third is crust", x.layer(0, 0, 0), 3);
        CHECK.due("and whole", x.layer(0, 0, 1), 100);
        CHECK.due("its age", x.layer(0, 0, 2), 3);
        CHECK.due("melted", x.count(3), 4 * 60);
        x.go(2);
        CHECK.due("none left", x.told(0, 0), 0);
        CHECK.due("no more melted than was", x.count(3), 4 * 160);
        WhiteSlopes y = Check.winter(1, 1);
        CHECK.due("new snow melts at once", y.layer(0, 0, 1), 4);
        CHECK.due("and is crust", y.layer(0, 0, 0), 3);
        y.go(1);
        CHECK.due("gone", y.told(0, 0), 0);
        CHECK.due("all melted", y.count(3), 120);
        CHECK.due("no crust at 0", Check.winter(0, 10).layer(0, 0, 0), 0);
    }

    private static void lastDay() {
        WhiteSlopes x = new WhiteSlopes();
        for (int i = 0; i < 13; i++) {
            x.go(30);
        }
        x.go(9);
        CHECK.due("snow on 399", x.snow(0, 1), true);
        CHECK.due("warmth on 399", x.warmth(0, -5), true);
        CHECK.due("wind on 399", x.wind(0, 1), true);
        CHECK.due("go(30) up to 400", x.go(30), 400);
        CHECK.due("fallen on 399", x.count(2), 120);
        CHECK.due("snow on 400", x.snow(0, 1), false);
        CHECK.due("gap on 400", x.snow(0, -1), false);
        CHECK.due("warmth on 400", x.warmth(0, 1), false);
        CHECK.due("warmth gap on 400", x.warmth(0, -100), false);
        CHECK.due("wind on 400", x.wind(0, 1), false);
        CHECK.due("go(0) on 400", x.go(0), 400);
        CHECK.due("go(5) on 400", x.go(5), 400);
        CHECK.due("go(31) on 400", x.go(31), -1);
        CHECK.due("age stays", x.layer(0, 0, 2), 0);
    }
}
