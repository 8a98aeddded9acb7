/** The bounds of promises 17 and 18: watch and right. */
public final class RightBoundsTest {
    private static final int NONE = WhiteSlopes.NONE;

    public static void main(String[] args) throws Exception {
        Bounds.run(RightBoundsTest.class);
    }

    private static void rights(Check check, String when, WhiteSlopes x, int... due) {
        for (int what = 0; what < 4; what++) {
            check.due(when + ": right(" + what + ")", x.right(what), due[what]);
        }
    }

    // ---- Promise 17: watch

    @Holds(promise = "17: watch",
        says = {"A CLASS is WATCHED NOW: its DANGER;", "NONE if there is none such,", "CLASSES are 0 .. 11:"})
    static void watchOfNoClass(Check check, Season season) {
        WhiteSlopes x = season.winterWith(1, -5, 10, 60);
        for (int klass : Bounds.NO_CLASSES) {
            check.due("watch(" + klass + ")", x.watch(klass), NONE);
        }
        check.due("watch(0)", x.watch(0), 5);
        check.due("watch(11)", x.watch(11), 5);
        x.go(1);
        rights(check, "two of them", x, 0, 2, 0, 0);
    }

    @Holds(promise = "17: watch", says = "or NOW is 400.")
    static void watchOnTheLastDay(Check check, Season season) {
        WhiteSlopes x = season.winterWith(1, -5, 10, 60);
        check.due("watch(3) ahead of it", x.watch(3), 5);
        x.go(1);
        boolean goesOn = season == Season.FIRST;
        for (int klass = 0; klass < 12; klass++) {
            check.due("watch(" + klass + ")", x.watch(klass), goesOn ? 5 : NONE);
        }
        x.go(1);
        rights(check, "in the end", x, 0, goesOn ? 13 : 1, 0, 0);
    }

    @Holds(promise = "17: watch", says = {"for each CLASS that was WATCHED on it (told;", "A CLASS is WATCHED NOW:"})
    static void eachClassThatWasWatched(Check check, Season season) {
        for (int klass = 0; klass < 12; klass++) {
            WhiteSlopes x = season.winterWith(1, -5, 10, 60);
            x.watch(klass);
            x.slide(klass, 0);
            x.slide((klass + 1) % 12, 0);
            x.go(1);
            rights(check, "of " + klass + " alone", x, 1, 0, 0, 0);
        }
        WhiteSlopes all = season.winterWith(1, -5, 10, 60);
        for (int klass = 0; klass < 12; klass++) {
            all.watch(klass);
        }
        all.go(1);
        rights(check, "of all", all, 0, 12, 0, 0);
    }

    // ---- Promise 18: right

    @Holds(promise = "18: right", says = {"0 HITS, 1 FALSE ones, 2 MISSED ones, 3 QUIET ones.", "NONE for others."})
    static void rightFrom0To3(Check check, Season season) {
        WhiteSlopes x = season.with(0);
        rights(check, "at first", x, 0, 0, 0, 0);
        for (int what : new int[] {-1, 4, 5, Integer.MIN_VALUE, Integer.MAX_VALUE}) {
            check.due("right(" + what + ")", x.right(what), NONE);
        }
    }

    /** A CLASS of DANGER 3 and one of DANGER 2, each with and without a SLIDE. */
    @Holds(promise = "18: right", says = {"DANGER 3 or more,",
        "with a SLIDE in it on that DAY counts as HIT, without one as FALSE;",
        "less with one as MISSED, without as QUIET."})
    static void danger3OrMore(Check check, Season season) {
        int[] amounts = {50, 49};
        for (int i = 0; i < 2; i++) {
            WhiteSlopes x = season.winterWith(1, -5, 10, 0, 0, amounts[i]);
            check.due("watch(0)", x.watch(0), 3 - i);
            check.due("watch(5)", x.watch(5), 3 - i);
            x.slide(5, 0);
            x.go(1);
            rights(check, "DANGER " + (3 - i), x, 1 - i, 1 - i, i, i);
        }
        WhiteSlopes most = season.winterWith(1, -5, 10, 60);
        check.due("watch(0)", most.watch(0), 5);
        most.go(1);
        rights(check, "DANGER 5", most, 0, 1, 0, 0);
        WhiteSlopes least = season.with(1);
        check.due("watch(0)", least.watch(0), 1);
        least.go(1);
        rights(check, "DANGER 1", least, 0, 0, 0, 1);
    }

    @Holds(promise = "18: right", says = "RIGHT: as each DAY ends, ahead of all else,")
    static void asEachDayEnds(Check check, Season season) {
        WhiteSlopes x = season.winterWith(3, -5, 10, 60);
        x.watch(0);
        x.slide(0, 0);
        rights(check, "ahead of the end", x, 0, 0, 0, 0);
        x.go(0);
        x.go(31);
        rights(check, "no DAY ended", x, 0, 0, 0, 0);
        x.go(3);
        rights(check, "three DAYS ended", x, 1, 0, 0, 0);
        WhiteSlopes y = season.winterWith(1, -5, 10);
        check.due("watch(0)", y.watch(0), 1);
        Season.fall(y, 60);
        check.due("DANGER after that DAY", y.told(0, 4), 5);
        rights(check, "not by the SNOW of that DAY", y, 0, 0, 0, 1);
    }

    @Holds(promise = "18: right", says = "not at first, nor on the next DAY):")
    static void notWatchedAtFirstNorOnTheNextDay(Check check, Season season) {
        WhiteSlopes x = season.winterWith(3, -5, 10, 60);
        x.slide(0, 0);
        x.go(1);
        rights(check, "never WATCHED", x, 0, 0, 0, 0);
        x.watch(1);
        x.go(1);
        rights(check, "WATCHED on one DAY", x, 0, 1, 0, 0);
        x.slide(1, 0);
        x.go(1);
        rights(check, "not on the next", x, 0, 1, 0, 0);
    }

    @Holds(promise = "18: right", says = "as it was when it was WATCHED first on that DAY,")
    static void dangerOfTheFirstWatch(Check check, Season season) {
        WhiteSlopes less = season.winterWith(2, -5, 10, 60);
        check.due("watch(0)", less.watch(0), 5);
        less.slide(0, 0);
        check.due("watch(0) then", less.watch(0), 1);
        less.go(1);
        rights(check, "5, then 1", less, 1, 0, 0, 0);
        check.due("watch(0) on the next DAY", less.watch(0), 1);
        less.go(1);
        rights(check, "1 on the next DAY", less, 1, 0, 0, 1);
        WhiteSlopes more = dangerThatGrowsByASlide(season);
        check.due("watch(0) low", more.watch(0), 1);
        check.due("slide(0, 2)", more.slide(0, 2), 120);
        check.due("watch(0) high", more.watch(0), 3);
        more.go(1);
        rights(check, "1, then 3", more, 0, 0, 1, 0);
    }

    /** WHY is a WEAK LAYER under 120, with SIZE 0; without these 120 it is CRUST under 1014, with SIZE 2. */
    private static WhiteSlopes dangerThatGrowsByASlide(Season season) {
        WhiteSlopes x = season.winterWith(5, 1, 10, 101);
        Season.warm(x, -20);
        Season.fall(x, 1, 0, 0, 12);
        return x;
    }

    @Holds(promise = "18: right", says = "SLIDES count, also ahead of being WATCHED.)")
    static void slidesAheadOfBeingWatched(Check check, Season season) {
        WhiteSlopes x = season.winterWith(3, -5, 10, 60);
        x.slide(0, 0);
        check.due("watch(0)", x.watch(0), 1);
        x.go(1);
        rights(check, "ahead of it", x, 0, 0, 1, 0);
        x.watch(1);
        x.slide(1, 0);
        x.go(1);
        rights(check, "after it", x, 1, 0, 1, 0);
        x.watch(1);
        x.go(1);
        rights(check, "a SLIDE of the DAY ahead", x, 1, 0, 1, 1);
    }

    @Holds(promise = "18: right", says = "(SHOTS' SLIDES don't count;")
    static void slidesOfShotsDoNotCount(Check check, Season season) {
        WhiteSlopes x = season.winterWith(1, -5, 10, 30, 60);
        x.watch(0);
        check.due("shot(0)", x.shot(0), 900);
        check.due("shot(1)", x.shot(1), 900);
        x.watch(1);
        x.watch(2);
        check.due("slide(2, 1)", x.slide(2, 1), 600);
        x.shot(2);
        x.go(1);
        rights(check, "two SHOTS, and a SLIDE with a SHOT", x, 1, 1, 0, 1);
    }

    /** A SLIDE that is refused is none. */
    @Holds(promise = "18: right",
        says = {"with a SLIDE in it on that DAY counts as HIT, without one as FALSE;",
            "What is refused changes nothing."})
    static void refusedSlidesDoNotCount(Check check, Season season) {
        WhiteSlopes x = season.winterWith(1, -5, 10, 60);
        x.watch(0);
        check.due("slide(0, 1)", x.slide(0, 1), NONE);
        check.due("slide(0, -1)", x.slide(0, -1), NONE);
        x.watch(1);
        check.due("shot(12)", x.shot(12), NONE);
        x.go(1);
        rights(check, "no SLIDE", x, 0, 2, 0, 0);
    }
}
