/** The bounds of promises 1 to 4: a new object, and what is told of NOW. */
public final class WeatherBoundsTest {
    private static final int NONE = WhiteSlopes.NONE;
    private static final int GAP = -100;
    private static final int LEAST = Integer.MIN_VALUE;
    private static final int GREATEST = Integer.MAX_VALUE;

    public static void main(String[] args) throws Exception {
        Bounds.run(WeatherBoundsTest.class);
    }

    /** The MASS of all LAYERS at each HEIGHT, looked at on its first and its last SIDE. */
    private static void masses(Check check, WhiteSlopes x, int... due) {
        for (int height = 0; height < 3; height++) {
            check.due("told(" + 4 * height + ", 1)", x.told(4 * height, 1), due[height]);
            check.due("told(" + (4 * height + 3) + ", 1)", x.told(4 * height + 3, 1), due[height]);
        }
    }

    // ---- Promise 1: a new object

    @Holds(promise = "1: A new object", says = {"No snow; NOW is 0.", "NOW is one (0 at first)"})
    static void nothingLiesAtFirst(Check check, Season season) {
        WhiteSlopes x = new WhiteSlopes();
        check.due("NOW of a new object", x.count(0), 0);
        for (int klass = 0; klass < 12; klass++) {
            check.due("LAYERS of " + klass, x.told(klass, 0), 0);
            check.due("MASS of " + klass, x.told(klass, 1), 0);
            check.due("layer(" + klass + ", 0, 1)", x.layer(klass, 0, 1), NONE);
        }
        for (int what = 1; what < 5; what++) {
            check.due("count(" + what + ") of a new object", x.count(what), 0);
        }
        check.due("SNOW that fell of itself by the end", season.with(0).count(2), 0);
    }

    // ---- Promise 2: snow

    @Holds(promise = "2: snow", says = {"SNOW of NOW at a HEIGHT", "false if there is none such,", "HEIGHT (0 .. 2)"})
    static void snowAtAHeightThatIsNone(Check check, Season season) {
        WhiteSlopes x = season.with(1);
        check.due("snow(0, 1)", x.snow(0, 1), true);
        check.due("snow(1, 2)", x.snow(1, 2), true);
        check.due("snow(2, 3)", x.snow(2, 3), true);
        for (int height : new int[] {-1, 3, 4, LEAST, GREATEST}) {
            check.due("snow(" + height + ", 9)", x.snow(height, 9), false);
            check.due("snow(" + height + ", NONE)", x.snow(height, NONE), false);
        }
        x.go(1);
        masses(check, x, 10, 20, 30);
    }

    @Holds(promise = "2: snow", says = {"it can't be,", "SNOW (0 .. 200) and WARMTH (-30 .. 10),"})
    static void snowFrom0To200(Check check, Season season) {
        WhiteSlopes x = season.with(1);
        check.due("snow(0, 0)", x.snow(0, 0), true);
        check.due("snow(1, 200)", x.snow(1, 200), true);
        check.due("snow(2, 199)", x.snow(2, 199), true);
        for (int amount : new int[] {-2, 201, GAP, -200, LEAST, GREATEST}) {
            for (int height = 0; height < 3; height++) {
                check.due("snow(" + height + ", " + amount + ")", x.snow(height, amount), false);
            }
        }
        x.go(1);
        masses(check, x, 0, 2000, 1990);
    }

    @Holds(promise = "2: snow", says = "(NONE: a GAP): true;")
    static void snowOfNoneIsAGap(Check check, Season season) {
        WhiteSlopes x = season.with(2);
        x.snow(0, 50);
        x.snow(1, 10);
        check.due("snow(0, NONE)", x.snow(0, NONE), true);
        check.due("snow(2, NONE)", x.snow(2, NONE), true);
        x.go(1);
        masses(check, x, 100, 100, 100);
        x.snow(0, 20);
        check.due("snow(0, -1) again", x.snow(0, -1), true);
        x.go(1);
        masses(check, x, 100, 100, 100);
    }

    @Holds(promise = "2: snow", says = "or NOW is 400.")
    static void snowOnTheLastDay(Check check, Season season) {
        WhiteSlopes x = season.with(1);
        check.due("snow(0, 1) ahead of it", x.snow(0, 1), true);
        x.go(1);
        boolean goesOn = season == Season.FIRST;
        for (int height = 0; height < 3; height++) {
            check.due("snow(" + height + ", 0)", x.snow(height, 0), goesOn);
            check.due("snow(" + height + ", NONE)", x.snow(height, NONE), goesOn);
            check.due("snow(" + height + ", 200)", x.snow(height, 200), goesOn);
        }
        x.go(30);
        check.due("SNOW that fell", x.count(2), goesOn ? 12 * 2010 : 12 * 10);
    }

    @Holds(promise = "2: snow", says = {"Of NOW is told for each HEIGHT:", "or nothing (a GAP, as at first):"})
    static void snowIsAGapAtFirst(Check check, Season season) {
        for (int height = 0; height < 3; height++) {
            WhiteSlopes x = season.with(1);
            x.snow(height, 7);
            x.go(1);
            masses(check, x, 70, 70, 70);
        }
    }

    @Holds(promise = "2: snow",
        says = "SNOW of a GAP is the mean (cut) of those HEIGHTS of which it was told for this DAY,")
    static void snowOfAGapIsTheMeanCut(Check check, Season season) {
        int[][] told = {{3, 4, NONE}, {0, 1, NONE}, {1, NONE, 2}, {NONE, 199, 200}, {200, 200, NONE}, {0, NONE, 0},
            {0, NONE, 9}, {NONE, 7, NONE}, {NONE, NONE, 1}, {200, NONE, NONE}, {1, 2, 4}};
        int[][] due = {{3, 4, 3}, {0, 1, 0}, {1, 1, 2}, {199, 199, 200}, {200, 200, 200}, {0, 0, 0},
            {0, 4, 9}, {7, 7, 7}, {1, 1, 1}, {200, 200, 200}, {1, 2, 4}};
        for (int i = 0; i < told.length; i++) {
            // What was told for the DAY ahead has no part in the mean.
            WhiteSlopes x = season.winterWith(1, -5, 100);
            for (int height = 0; height < 3; height++) {
                x.snow(height, told[i][height]);
            }
            x.go(1);
            masses(check, x, 1000 + 10 * due[i][0], 1000 + 10 * due[i][1], 1000 + 10 * due[i][2]);
            check.due("LAYERS of 4, case " + i, x.told(4, 0), due[i][1] > 0 ? 2 : 1);
        }
    }

    @Holds(promise = "2: snow", says = "0 if of none;")
    static void snowOfNoHeightIs0(Check check, Season season) {
        WhiteSlopes x = season.with(2);
        x.go(1);
        check.due("SNOW that fell", x.count(2), 0);
        x.snow(1, 5);
        x.snow(1, NONE);
        x.go(1);
        check.due("SNOW that fell, told and taken back", x.count(2), 0);
        check.due("LAYERS", x.told(4, 0), 0);
    }

    // ---- Promise 3: warmth

    @Holds(promise = "3: warmth", says = {"WARMTH of NOW at a HEIGHT", "false likewise.", "HEIGHT (0 .. 2)"})
    static void warmthAtAHeightThatIsNone(Check check, Season season) {
        WhiteSlopes x = season.winterWith(1, -5, 50);
        check.due("warmth(0, 1)", x.warmth(0, 1), true);
        check.due("warmth(1, 2)", x.warmth(1, 2), true);
        check.due("warmth(2, 3)", x.warmth(2, 3), true);
        for (int height : new int[] {-1, 3, 4, LEAST, GREATEST}) {
            check.due("warmth(" + height + ", 9)", x.warmth(height, 9), false);
            check.due("warmth(" + height + ", -100)", x.warmth(height, GAP), false);
        }
        x.go(1);
        masses(check, x, 494, 488, 482);
    }

    @Holds(promise = "3: warmth", says = {"false likewise.", "SNOW (0 .. 200) and WARMTH (-30 .. 10),"})
    static void warmthFromMinus30To10(Check check, Season season) {
        WhiteSlopes x = season.winterWith(3, -5, 20);
        x.go(2);
        check.due("warmth(0, 10)", x.warmth(0, 10), true);
        check.due("warmth(1, -30)", x.warmth(1, -30), true);
        check.due("warmth(2, 9)", x.warmth(2, 9), true);
        for (int degrees : new int[] {-31, 11, -99, -101, 100, LEAST, GREATEST}) {
            for (int height = 0; height < 3; height++) {
                check.due("warmth(" + height + ", " + degrees + ")", x.warmth(height, degrees), false);
            }
        }
        x.go(1);
        masses(check, x, 140, 200, 146);
        check.due("KIND under -30", x.layer(4, 0, 0), 2);
    }

    @Holds(promise = "3: warmth", says = "(-100: a GAP): true;")
    static void warmthOfMinus100IsAGap(Check check, Season season) {
        WhiteSlopes x = season.winterWith(2, -5, 50);
        x.warmth(0, 10);
        check.due("warmth(0, -100)", x.warmth(0, GAP), true);
        x.warmth(1, 2);
        x.go(1);
        masses(check, x, 500, 488, 500);
        x.warmth(1, 10);
        check.due("warmth(1, -100)", x.warmth(1, GAP), true);
        x.go(1);
        masses(check, x, 500, 476, 500);
    }

    @Holds(promise = "3: warmth", says = "false likewise.")
    static void warmthOnTheLastDay(Check check, Season season) {
        WhiteSlopes x = season.winterWith(1, -5, 50);
        check.due("warmth(0, 1) ahead of it", x.warmth(0, 1), true);
        x.go(1);
        boolean goesOn = season == Season.FIRST;
        for (int height = 0; height < 3; height++) {
            check.due("warmth(" + height + ", -30)", x.warmth(height, -30), goesOn);
            check.due("warmth(" + height + ", -100)", x.warmth(height, GAP), goesOn);
            check.due("warmth(" + height + ", 10)", x.warmth(height, 10), goesOn);
        }
        x.go(1);
        masses(check, x, goesOn ? 434 : 494, goesOn ? 440 : 500, goesOn ? 440 : 500);
    }

    @Holds(promise = "3: warmth", says = "WARMTH that of the DAY ahead at this HEIGHT (told or not;")
    static void warmthOfAGapIsThatOfTheDayAhead(Check check, Season season) {
        WhiteSlopes x = season.winterWith(4, -5, 50);
        x.warmth(1, 1);
        x.go(1);
        masses(check, x, 500, 494, 500);
        x.go(1);
        masses(check, x, 500, 488, 500);
        x.warmth(2, 2);
        x.go(1);
        masses(check, x, 500, 482, 488);
        x.warmth(1, 0);
        x.go(1);
        masses(check, x, 500, 482, 476);
    }

    /** -5 can be told from other WARMTH by this alone: it is above -8, and not above 0. */
    @Holds(promise = "3: warmth", says = "-5 ahead of DAY 0).")
    static void warmthAheadOfDay0(Check check, Season season) {
        WhiteSlopes x = season.with(4);
        Season.fall(x, 1, 0, 0);
        check.due("KIND at AGE 2", x.layer(0, 0, 0), 0);
        x.go(1);
        for (int klass = 0; klass < 12; klass += 4) {
            check.due("SETTLED, not WEAK, in " + klass, x.layer(klass, 0, 0), 1);
            check.due("nothing MELTS in " + klass, x.layer(klass, 0, 1), 10);
        }
        WhiteSlopes y = season.with(4);
        Season.fall(y, 1);
        y.warmth(1, -8);
        y.go(3);
        check.due("told at another HEIGHT", y.layer(0, 0, 0), 1);
        check.due("told at this HEIGHT", y.layer(4, 0, 0), 2);
    }

    // ---- Promise 4: wind

    @Holds(promise = "4: wind",
        says = {"false if there is no such SIDE or FORCE,", "SIDE (0 north, 1 east, 2 south, 3 west)"})
    static void windFromASideThatIsNone(Check check, Season season) {
        for (int side = 0; side < 4; side++) {
            WhiteSlopes x = season.with(1);
            check.due("wind(" + side + ", 5)", x.wind(side, 5), true);
            for (int none : new int[] {-1, 4, 5, LEAST, GREATEST}) {
                check.due("wind(" + none + ", 9)", x.wind(none, 9), false);
                check.due("wind(" + none + ", 0)", x.wind(none, 0), false);
            }
            Season.fall(x, 10);
            check.due("MASS from where it blew", x.told(side, 1), 80);
            check.due("MASS where it went", x.told((side + 2) % 4, 1), 120);
            check.due("MASS beside it", x.told((side + 1) % 4, 1), 100);
        }
    }

    @Holds(promise = "4: wind",
        says = {"WIND: from a SIDE, with a FORCE (0 .. 9;", "false if there is no such SIDE or FORCE,"})
    static void windFrom0To9(Check check, Season season) {
        WhiteSlopes x = season.with(2);
        check.due("wind(0, 9)", x.wind(0, 9), true);
        for (int force : new int[] {-1, 10, 11, GAP, LEAST, GREATEST}) {
            check.due("wind(2, " + force + ")", x.wind(2, force), false);
        }
        Season.fall(x, 10);
        check.due("MASS under FORCE 9", x.told(0, 1), 64);
        check.due("wind(0, 9) again", x.wind(0, 9), true);
        check.due("wind(0, 0)", x.wind(0, 0), true);
        x.go(1);
        check.due("MASS under FORCE 0", x.told(0, 1), 64);
    }

    @Holds(promise = "4: wind", says = "with a FORCE (0 .. 9; 0 at first).")
    static void windIs0AtFirst(Check check, Season season) {
        WhiteSlopes x = season.winter(-5, 10);
        for (int klass = 0; klass < 12; klass++) {
            check.due("MASS of " + klass, x.told(klass, 1), 100);
        }
    }

    @Holds(promise = "4: wind", says = {"WIND of NOW: true;", "or NOW is 400."})
    static void windOnTheLastDay(Check check, Season season) {
        WhiteSlopes x = season.winterWith(1, -5, 10);
        check.due("wind(0, 5) ahead of it", x.wind(0, 5), true);
        x.go(1);
        check.due("MASS after it", x.told(0, 1), 80);
        boolean goesOn = season == Season.FIRST;
        for (int side = 3; side >= 0; side--) {
            check.due("wind(" + side + ", 0)", x.wind(side, 0), goesOn);
            check.due("wind(" + side + ", 9)", x.wind(side, 9), goesOn);
        }
        x.go(1);
        check.due("MASS at the end", x.told(0, 1), goesOn ? 52 : 80);
    }
}
