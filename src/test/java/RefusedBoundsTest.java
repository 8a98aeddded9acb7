import java.util.function.Supplier;
import java.util.function.ToIntFunction;

/** What is refused changes nothing: every call of the face that can be refused, and those that only ask. */
public final class RefusedBoundsTest {
    private static final int NONE = WhiteSlopes.NONE;
    private static final int FALSE = 0;
    private static final int LEAST = Integer.MIN_VALUE;
    private static final int GREATEST = Integer.MAX_VALUE;

    public static void main(String[] args) throws Exception {
        Bounds.run(RefusedBoundsTest.class);
    }

    /**
     * An object with something of all: LAYERS of each KIND, PATHS, things in a PIT, CLASSES that were WATCHED or
     * had SLIDES, and SNOW, WARMTH and WIND told of NOW; so many DAYS to go (on DAY 400 nothing can be told).
     */
    private static WhiteSlopes busy(Season season, int left) {
        WhiteSlopes x = season.winterWith(left + 1, -20, 10, 20, 5, 60);
        x.warmth(1, 2);
        x.warmth(2, -5);
        Season.drift(x, 1, 5, 40);
        x.path(0, 1);
        x.path(11, 0);
        x.seen(0, 400);
        x.seen(2, 105);
        x.watch(0);
        x.watch(5);
        x.watch(11);
        x.slide(5, 1);
        x.slide(6, 0);
        x.snow(0, 7);
        x.snow(1, 0);
        x.warmth(0, 3);
        x.warmth(2, -9);
        x.wind(3, 6);
        return x;
    }

    private static WhiteSlopes busyWithTenPaths(Season season, int left) {
        WhiteSlopes x = busy(season, left);
        for (int number = 2; number < 10; number++) {
            x.path(number, number % 3);
        }
        return x;
    }

    private static WhiteSlopes busyWithSixThings(Season season, int left) {
        WhiteSlopes x = busy(season, left);
        for (int number = 2; number < 6; number++) {
            x.seen(number % 4, 30 * number);
        }
        return x;
    }

    /** How many DAYS are to go when a call is looked at: in the last season the very last ones matter. */
    private static int[] daysLeft(Season season) {
        return season == Season.FIRST ? new int[] {3} : new int[] {3, 1, 0};
    }

    /** The call is refused, and what follows is as without it. */
    private static void refused(Check check, Season season, String call, ToIntFunction<WhiteSlopes> run, int due) {
        for (int left : daysLeft(season)) {
            refusedOn(check, call + " with " + left + " to go", () -> busy(season, left), run, due);
        }
    }

    private static void refusedOn(Check check, String call, Supplier<WhiteSlopes> make, ToIntFunction<WhiteSlopes> run,
            int due) {
        check.due(call, run.applyAsInt(make.get()), due);
        Twins.alike(check, call, make, run::applyAsInt);
    }

    @Holds(promise = "2: snow", says = "What is refused changes nothing.")
    static void snow(Check check, Season season) {
        int[][] wrong = {{-1, 9}, {3, 9}, {LEAST, 9}, {GREATEST, 9}, {3, NONE}, {0, -2}, {1, 201}, {2, 201}, {0, LEAST},
            {0, GREATEST}};
        for (int[] w : wrong) {
            refused(check, season, "snow(" + w[0] + ", " + w[1] + ")", x -> x.snow(w[0], w[1]) ? 1 : 0, FALSE);
        }
    }

    @Holds(promise = "3: warmth", says = "What is refused changes nothing.")
    static void warmth(Check check, Season season) {
        int[][] wrong = {{-1, 9}, {3, 9}, {LEAST, 9}, {GREATEST, 9}, {3, -100}, {0, -31}, {1, 11}, {2, 11}, {2, -31},
            {0, -99}, {0, -101}, {0, LEAST}, {0, GREATEST}};
        for (int[] w : wrong) {
            refused(check, season, "warmth(" + w[0] + ", " + w[1] + ")", x -> x.warmth(w[0], w[1]) ? 1 : 0, FALSE);
        }
    }

    @Holds(promise = "4: wind", says = "What is refused changes nothing.")
    static void wind(Check check, Season season) {
        int[][] wrong = {{-1, 9}, {4, 9}, {LEAST, 9}, {GREATEST, 9}, {4, 0}, {-1, 0}, {0, -1}, {0, 10}, {2, 10},
            {1, LEAST}, {1, GREATEST}};
        for (int[] w : wrong) {
            refused(check, season, "wind(" + w[0] + ", " + w[1] + ")", x -> x.wind(w[0], w[1]) ? 1 : 0, FALSE);
        }
    }

    @Holds(promise = "5: go", says = "What is refused changes nothing.")
    static void go(Check check, Season season) {
        for (int n : new int[] {-1, 31, 400, LEAST, GREATEST}) {
            refused(check, season, "go(" + n + ")", x -> x.go(n), NONE);
        }
        // No DAY ends by go(0), which is not refused.
        for (int left : daysLeft(season)) {
            Twins.alike(check, "go(0)", () -> busy(season, left), x -> x.go(0));
        }
    }

    @Holds(promise = "6: layer", says = "What is refused changes nothing.")
    static void layer(Check check, Season season) {
        int[][] wrong = {{-1, 0, 1}, {12, 0, 1}, {0, -1, 1}, {0, 10, 1}, {0, 0, -1}, {0, 0, 5},
            {GREATEST, GREATEST, GREATEST}, {LEAST, LEAST, LEAST}};
        for (int[] w : wrong) {
            String call = "layer(" + w[0] + ", " + w[1] + ", " + w[2] + ")";
            refused(check, season, call, x -> x.layer(w[0], w[1], w[2]), NONE);
        }
    }

    @Holds(promise = "7: told", says = "What is refused changes nothing.")
    static void told(Check check, Season season) {
        int[][] wrong = {{-1, 4}, {12, 4}, {0, -1}, {0, 6}, {GREATEST, GREATEST}, {LEAST, LEAST}};
        for (int[] w : wrong) {
            refused(check, season, "told(" + w[0] + ", " + w[1] + ")", x -> x.told(w[0], w[1]), NONE);
        }
    }

    @Holds(promise = "8: slide", says = "What is refused changes nothing.")
    static void slide(Check check, Season season) {
        // Class 6 has one LAYER, class 5 two; classes 0 and 11 were WATCHED and have five.
        int[][] wrong = {{-1, 0}, {12, 0}, {LEAST, 0}, {GREATEST, 0}, {0, -1}, {0, 4}, {0, 5}, {11, 4}, {0, LEAST},
            {0, GREATEST}, {6, 0}, {5, 1}, {5, 2}};
        for (int[] w : wrong) {
            refused(check, season, "slide(" + w[0] + ", " + w[1] + ")", x -> x.slide(w[0], w[1]), NONE);
        }
    }

    @Holds(promise = "9: shot", says = "What is refused changes nothing.")
    static void shot(Check check, Season season) {
        for (int klass : Bounds.NO_CLASSES) {
            refused(check, season, "shot(" + klass + ")", x -> x.shot(klass), NONE);
        }
    }

    /** Not refused, but nothing: where LIKELY is 0. */
    @Holds(promise = "9: shot", says = {"else nothing.", "(0 if nothing);"})
    static void shotThatDoesNothing(Check check, Season season) {
        refused(check, season, "shot(6)", x -> x.shot(6), 0);
    }

    @Holds(promise = "10: path", says = "What is refused changes nothing.")
    static void path(Check check, Season season) {
        int[][] wrong = {{-1, 0}, {12, 0}, {LEAST, 0}, {GREATEST, 0}, {0, -1}, {0, 3}, {0, LEAST}, {0, GREATEST}};
        for (int[] w : wrong) {
            refused(check, season, "path(" + w[0] + ", " + w[1] + ")", x -> x.path(w[0], w[1]), NONE);
        }
    }

    @Holds(promise = "10: path", says = {"What is refused changes nothing.", "or 10 came."})
    static void pathAfterTenCame(Check check, Season season) {
        for (int left : daysLeft(season)) {
            refusedOn(check, "an eleventh path", () -> busyWithTenPaths(season, left), x -> x.path(10, 0), NONE);
            refusedOn(check, "an eleventh path(0, 0)", () -> busyWithTenPaths(season, left), x -> x.path(0, 0), NONE);
        }
    }

    @Holds(promise = "14: seen", says = "What is refused changes nothing.")
    static void seen(Check check, Season season) {
        int[][] wrong = {{-1, 105}, {4, 105}, {LEAST, 105}, {GREATEST, 105}, {2, 0}, {2, -1}, {2, 10000}, {2, LEAST},
            {2, GREATEST}};
        for (int[] w : wrong) {
            refused(check, season, "seen(" + w[0] + ", " + w[1] + ")", x -> x.seen(w[0], w[1]), NONE);
        }
    }

    @Holds(promise = "14: seen", says = {"What is refused changes nothing.", "NONE if there are 6,"})
    static void seenAfterSix(Check check, Season season) {
        for (int left : daysLeft(season)) {
            refusedOn(check, "a seventh thing", () -> busyWithSixThings(season, left), x -> x.seen(1, 105), NONE);
            refusedOn(check, "a seventh wrong one", () -> busyWithSixThings(season, left), x -> x.seen(4, 0), NONE);
        }
    }

    @Holds(promise = "15: matched", says = "What is refused changes nothing.")
    static void matched(Check check, Season season) {
        for (int klass : Bounds.NO_CLASSES) {
            refused(check, season, "matched(" + klass + ")", x -> x.matched(klass), NONE);
        }
    }

    @Holds(promise = "17: watch", says = "What is refused changes nothing.")
    static void watch(Check check, Season season) {
        for (int klass : Bounds.NO_CLASSES) {
            refused(check, season, "watch(" + klass + ")", x -> x.watch(klass), NONE);
        }
    }

    @Holds(promise = "18: right", says = "What is refused changes nothing.")
    static void right(Check check, Season season) {
        for (int what : new int[] {-1, 4, LEAST, GREATEST}) {
            refused(check, season, "right(" + what + ")", x -> x.right(what), NONE);
        }
    }

    @Holds(promise = "19: count", says = "What is refused changes nothing.")
    static void count(Check check, Season season) {
        for (int what : new int[] {-1, 8, LEAST, GREATEST}) {
            refused(check, season, "count(" + what + ")", x -> x.count(what), NONE);
        }
    }

    @Holds(promise = "2: snow", says = {"What is refused changes nothing.", "or NOW is 400."})
    static void snowOn400(Check check, Season season) {
        for (int amount : new int[] {NONE, 0, 9, 200, 201}) {
            Supplier<WhiteSlopes> make = () -> busy(Season.LAST, 0);
            refusedOn(check, "snow(0, " + amount + ") on 400", make, x -> x.snow(0, amount) ? 1 : 0, FALSE);
        }
    }

    @Holds(promise = "3: warmth", says = {"What is refused changes nothing.", "false likewise."})
    static void warmthOn400(Check check, Season season) {
        for (int degrees : new int[] {-100, -30, 0, 10, 11}) {
            Supplier<WhiteSlopes> make = () -> busy(Season.LAST, 0);
            refusedOn(check, "warmth(0, " + degrees + ") on 400", make, x -> x.warmth(0, degrees) ? 1 : 0, FALSE);
        }
    }

    @Holds(promise = "4: wind", says = {"What is refused changes nothing.", "or NOW is 400."})
    static void windOn400(Check check, Season season) {
        for (int force : new int[] {0, 3, 4, 9, 10}) {
            Supplier<WhiteSlopes> make = () -> busy(Season.LAST, 0);
            refusedOn(check, "wind(0, " + force + ") on 400", make, x -> x.wind(0, force) ? 1 : 0, FALSE);
        }
    }

    @Holds(promise = "17: watch", says = {"What is refused changes nothing.", "or NOW is 400."})
    static void watchOn400(Check check, Season season) {
        for (int klass = 0; klass < 12; klass++) {
            int watched = klass;
            Supplier<WhiteSlopes> make = () -> busy(Season.LAST, 0);
            refusedOn(check, "watch(" + klass + ") on 400", make, x -> x.watch(watched), NONE);
        }
    }

    /** Not refused, but no DAY is left to end. */
    @Holds(promise = "5: go", says = "up to 400): NOW;")
    static void goOn400(Check check, Season season) {
        for (int n : new int[] {0, 1, 30}) {
            refusedOn(check, "go(" + n + ") on 400", () -> busy(Season.LAST, 0), x -> x.go(n), 400);
        }
    }

    /** Those that only ask leave all as it was: told of NOW, WATCHED, and the row by which a PIT is MATCHED. */
    @Holds(promise = "16: nearest", says = "The CLASS to which it is MATCHED for the least sum,")
    static void asking(Check check, Season season) {
        for (int left : daysLeft(season)) {
            Twins.alike(check, "asking", () -> busy(season, left), RefusedBoundsTest::askAll);
        }
    }

    private static void askAll(WhiteSlopes x) {
        for (int klass = 0; klass < 12; klass++) {
            x.layer(klass, 1, 4);
            x.told(klass, 4);
            x.matched(klass);
        }
        x.nearest();
        x.shut();
        x.shots();
        for (int what = 0; what < 8; what++) {
            x.right(what);
            x.count(what);
        }
    }
}
