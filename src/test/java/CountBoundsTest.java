/** The bounds of promise 19, count, and of an object's calls. */
public final class CountBoundsTest {
    private static final int NONE = WhiteSlopes.NONE;

    public static void main(String[] args) throws Exception {
        Bounds.run(CountBoundsTest.class);
    }

    @Holds(promise = "19: count",
        says = {"0 NOW, 1 MASS on the slopes, 2 that fell, 3 MELTED, 4 SLID,",
            "5 the greatest DANGER, 6 PATHS, 7 things in the PIT.",
            "NONE for others."})
    static void countFrom0To7(Check check, Season season) {
        WhiteSlopes x = season.winterWith(1, -5, 10, 60);
        x.warmth(1, 1);
        x.go(1);
        x.slide(0, 0);
        for (int path = 0; path < 4; path++) {
            x.path(path, 0);
        }
        for (int thing = 0; thing < 6; thing++) {
            x.seen(0, 1);
        }
        int now = season == Season.FIRST ? 3 : 400;
        int[] due = {now, 12 * 700 - 4 * 6 - 600, 12 * 700, 4 * 6, 600, 5, 4, 6};
        for (int what = 0; what < 8; what++) {
            check.due("count(" + what + ")", x.count(what), due[what]);
        }
        for (int what : new int[] {-1, 8, 9, Integer.MIN_VALUE, Integer.MAX_VALUE}) {
            check.due("count(" + what + ")", x.count(what), NONE);
        }
    }

    @Holds(promise = "19: count", says = {"0 NOW,", "DAYS are 0 .. 400;"})
    static void nowFrom0To400(Check check, Season season) {
        check.due("NOW at first", new WhiteSlopes().count(0), 0);
        WhiteSlopes x = season.with(1);
        int before = season == Season.FIRST ? 0 : 399;
        check.due("NOW", x.count(0), before);
        x.go(1);
        check.due("NOW after a DAY", x.count(0), before + 1);
        Season.rest(x, 400);
        check.due("NOW at last", x.count(0), 400);
    }

    @Holds(promise = "19: count", says = {"5 the greatest DANGER,", "1 to 5 always."})
    static void greatestDangerFrom1To5(Check check, Season season) {
        check.due("of bare ground", season.with(0).count(5), 1);
        int[] amounts = {13, 20, 27, 60};
        int[] dangers = {1, 2, 4, 5};
        for (int i = 0; i < 4; i++) {
            check.due("under " + amounts[i], season.winter(-5, 10, amounts[i]).count(5), dangers[i]);
        }
        for (int best = 0; best < 12; best++) {
            WhiteSlopes x = season.winter(-5, 10, 27);
            for (int klass = 0; klass < 12; klass++) {
                if (klass != best) {
                    x.slide(klass, 0);
                }
            }
            check.due("of " + best + " alone", x.count(5), 3);
        }
    }

    @Holds(promise = "19: count", says = "MASS that fell is on the slopes, MELTED, or SLID.")
    static void massThatFell(Check check, Season season) {
        WhiteSlopes x = season.winterWith(40, 3, 30, 1, 20, 200);
        for (int day = 0; day < 40; day++) {
            x.snow(day % 3, day * 7 % 41);
            x.wind(day % 4, day % 10);
            x.warmth(day % 3, day * 11 % 41 - 30);
            x.slide(day % 12, day % 5);
            x.shot(day * 5 % 12);
            x.go(1);
            check.due("MASS on DAY " + day, x.count(1) + x.count(3) + x.count(4), x.count(2));
        }
        check.due("some MELTED", x.count(3) > 0, true);
        check.due("some SLID", x.count(4) > 0, true);
        check.due("some is there", x.count(1) > 0, true);
    }

    /** The most that can fall in an object's calls: a call for SNOW and one for each DAY. */
    @Holds(promise = "19: count", says = {"1 MASS on the slopes, 2 that fell,", "at most 512 calls"})
    static void greatestMass(Check check, Season season) {
        int days = season == Season.FIRST ? 250 : 240;
        WhiteSlopes x = season.with(days);
        for (int day = 0; day < days; day++) {
            x.snow(1, 200);
            x.go(1);
        }
        check.due("MASS that fell", x.count(2), 12 * 2000 * days);
        check.due("MASS on the slopes", x.count(1), 12 * 2000 * days);
        check.due("MASS of the lowest", x.layer(0, 0, 1), 2000 * (days - 9));
        check.due("AGE of the lowest", x.layer(0, 0, 2), days - 1);
        check.due("INDEX of the lowest", x.layer(0, 0, 4), 5);
        check.due("slide(0, 0)", x.slide(0, 0), 18000);
    }

    @Holds(promise = "19: count", says = "An object is used for at most 512 calls after it has been made;")
    static void the512thCall(Check check, Season season) {
        int days = 5;
        WhiteSlopes x = season.with(days);
        int calls = season == Season.FIRST ? 0 : (Season.LAST_DAY - days + 29) / 30;
        x.snow(0, 10);
        calls++;
        while (calls < 511) {
            x.seen(0, 1 + calls % 2);
            calls++;
        }
        check.due("the 512th call", x.go(5), season == Season.FIRST ? 5 : 400);
    }

    @Holds(promise = "19: count", says = "The constants: `NONE = -1`: There is none.")
    static void noneIsMinus1(Check check, Season season) {
        check.due("NONE", WhiteSlopes.NONE, -1);
        check.due("told(0, 5)", season.with(0).told(0, 5), -1);
    }
}
