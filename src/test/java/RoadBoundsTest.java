/** The bounds of promises 10 to 12: path, shut, shots. */
public final class RoadBoundsTest {
    private static final int NONE = WhiteSlopes.NONE;

    public static void main(String[] args) throws Exception {
        Bounds.run(RoadBoundsTest.class);
    }

    // ---- Promise 10: path

    @Holds(promise = "10: path",
        says = {"A PATH: its number;", "or 10 came.", "PATHS have numbers as they come, at most 10:"})
    static void tenPathsAtMost(Check check, Season season) {
        WhiteSlopes x = season.winter(-5, 10, 60);
        for (int number = 0; number < 10; number++) {
            check.due("PATHS ahead of it", x.count(6), number);
            check.due("path " + number, x.path(number, 2), number);
        }
        check.due("the eleventh", x.path(10, 0), NONE);
        check.due("one like the first", x.path(0, 2), NONE);
        check.due("PATHS", x.count(6), 10);
        check.due("shut()", x.shut(), 1023);
    }

    @Holds(promise = "10: path", says = {"NONE if there is no such CLASS", "CLASSES are 0 .. 11:"})
    static void pathInNoClass(Check check, Season season) {
        WhiteSlopes x = season.winter(-5, 10, 60);
        for (int klass : Bounds.NO_CLASSES) {
            check.due("path(" + klass + ", 0)", x.path(klass, 0), NONE);
        }
        check.due("PATHS", x.count(6), 0);
        check.due("path(0, 0)", x.path(0, 0), 0);
        check.due("path(11, 0)", x.path(11, 0), 1);
        check.due("shut()", x.shut(), 3);
        x.slide(11, 0);
        check.due("shut() without 11", x.shut(), 1);
    }

    @Holds(promise = "10: path", says = {"or SIZE,", "a CLASS, and from which SIZE on (0 .. 2) they reach the road."})
    static void pathOfNoSize(Check check, Season season) {
        WhiteSlopes x = season.winter(-5, 10, 60);
        for (int size : new int[] {-1, 3, 4, Integer.MIN_VALUE, Integer.MAX_VALUE}) {
            check.due("path(0, " + size + ")", x.path(0, size), NONE);
        }
        check.due("PATHS", x.count(6), 0);
        for (int size = 0; size < 3; size++) {
            check.due("path(0, " + size + ")", x.path(0, size), size);
        }
        check.due("shut()", x.shut(), 7);
    }

    // ---- Promise 11: shut

    /** A PATH in class 0 for each SIZE. */
    private static void pathsOfEachSize(WhiteSlopes x, int klass) {
        for (int size = 0; size < 3; size++) {
            x.path(klass, size);
        }
    }

    @Holds(promise = "11: shut",
        says = {"PATHS by which the road is SHUT (bits).",
            "The road is SHUT by a PATH if LIKELY of its CLASS is 2 at least,"})
    static void shutFromLikely2On(Check check, Season season) {
        int[] amounts = {13, 26, 27, 40, 41};
        int[] likely = {0, 1, 2, 2, 3};
        for (int i = 0; i < amounts.length; i++) {
            WhiteSlopes x = season.winter(-5, 10, amounts[i]);
            x.path(4, 0);
            check.due("LIKELY", x.told(4, 2), likely[i]);
            check.due("shut() at " + likely[i], x.shut(), likely[i] < 2 ? 0 : 1);
        }
        WhiteSlopes large = season.winter(-5, 10, 0, 0, 60);
        pathsOfEachSize(large, 0);
        check.due("LIKELY with SIZE 2", large.told(0, 2), 1);
        check.due("shut() with SIZE 2", large.shut(), 0);
        WhiteSlopes bare = season.with(0);
        bare.path(0, 0);
        check.due("shut() on bare ground", bare.shut(), 0);
        check.due("shut() without PATHS", season.winter(-5, 10, 60).shut(), 0);
    }

    @Holds(promise = "11: shut", says = "and SIZE is what it needs.")
    static void shutFromTheSizeThatIsNeeded(Check check, Season season) {
        int[] amounts = {27, 49, 50};
        int[] bits = {3, 3, 7};
        for (int i = 0; i < amounts.length; i++) {
            WhiteSlopes x = season.winter(-5, 10, amounts[i]);
            pathsOfEachSize(x, 11);
            check.due("shut() under " + amounts[i], x.shut(), bits[i]);
        }
        WhiteSlopes small = season.winterWith(1, -30, 1, 0, 0);
        Season.drift(small, 0, 4, 17);
        pathsOfEachSize(small, 2);
        check.due("LOAD 197", small.layer(2, 0, 3), 197);
        check.due("SIZE 0", small.told(2, 3), 0);
        check.due("shut() by SIZE 0", small.shut(), 1);
    }

    @Holds(promise = "11: shut", says = "PATHS by which the road is SHUT (bits).")
    static void shutByBitsOfTheNumbers(Check check, Season season) {
        for (int number = 0; number < 10; number++) {
            WhiteSlopes x = season.winter(-5, 10, 60);
            for (int path = 0; path < 10; path++) {
                x.path(path == number ? 7 : 6, 0);
            }
            check.due("shut() by all", x.shut(), 1023);
            x.slide(6, 0);
            check.due("shut() by " + number, x.shut(), 1 << number);
        }
    }

    // ---- Promise 12: shots

    @Holds(promise = "12: shots",
        says = {"Fewest SHOTS.",
            "Fewest SHOTS: the least number of CLASSES in which a SHOT lets no PATH SHUT the road"})
    static void shotsFrom0To10(Check check, Season season) {
        WhiteSlopes x = season.winter(-5, 10, 60);
        check.due("shots() without PATHS", x.shots(), 0);
        for (int number = 0; number < 10; number++) {
            x.path(number + 2, number % 3);
            check.due("shots() of " + (number + 1), x.shots(), number + 1);
        }
        for (int left = 9; left >= 0; left--) {
            x.shot(left + 2);
            check.due("shots() of " + left, x.shots(), left);
        }
        WhiteSlopes one = season.winter(-5, 10, 60);
        for (int number = 0; number < 10; number++) {
            one.path(5, number % 3);
        }
        check.due("shots() in one CLASS", one.shots(), 1);
    }

    @Holds(promise = "12: shots", says = "(SHOTS where LIKELY is 0 or 1 do nothing);")
    static void noShotsWhereNothingIsShut(Check check, Season season) {
        int[] amounts = {13, 26, 27};
        int[] shots = {0, 0, 1};
        for (int i = 0; i < amounts.length; i++) {
            WhiteSlopes x = season.winter(-5, 10, amounts[i]);
            x.path(3, 0);
            check.due("shots() under " + amounts[i], x.shots(), shots[i]);
        }
        WhiteSlopes tooSmall = season.winter(-5, 10, 49);
        tooSmall.path(3, 2);
        check.due("shots() for SIZE 2 under 490", tooSmall.shots(), 0);
        WhiteSlopes large = season.winter(-5, 10, 50);
        large.path(3, 2);
        check.due("shots() for SIZE 2 under 500", large.shots(), 1);
    }

    /** After its SHOT a CLASS has LIKELY 2 and SIZE 1 still, from 21 on; with 20 it has LIKELY 1. */
    private static WhiteSlopes layersThatSlideTwice(Season season, int second) {
        return season.winter(-20, 1, second, 200, 200, 200);
    }

    @Holds(promise = "12: shots", says = "if none does, NONE.")
    static void noneIfNoShotsDo(Check check, Season season) {
        int[] seconds = {20, 21, 29};
        int[][] due = {{1, 1, 1}, {NONE, NONE, 1}, {NONE, NONE, 1}};
        for (int i = 0; i < seconds.length; i++) {
            for (int size = 0; size < 3; size++) {
                WhiteSlopes x = layersThatSlideTwice(season, seconds[i]);
                x.path(8, size);
                check.due("shut()", x.shut(), 1);
                check.due("shots() for SIZE " + size + ", " + seconds[i], x.shots(), due[i][size]);
                check.due("shot(8)", x.shot(8), 6000);
                check.due("shut() after it", x.shut(), due[i][size] == NONE ? 1 : 0);
                check.due("shots() after it", x.shots(), due[i][size] == NONE ? 1 : 0);
            }
        }
    }

    /** One CLASS that stays SHUT is enough for NONE, wherever it stands among those that need one SHOT. */
    @Holds(promise = "12: shots", says = "if none does, NONE.")
    static void noneIfOneClassStaysShut(Check check, Season season) {
        for (int worst : new int[] {0, 5, 11}) {
            WhiteSlopes x = layersThatSlideTwice(season, 29);
            for (int klass : new int[] {0, 5, 11}) {
                x.path(klass, klass == worst ? 1 : 2);
            }
            check.due("shots() with " + worst, x.shots(), NONE);
            x.shot(worst);
            check.due("shots() after one there", x.shots(), 3);
            x.shot(worst);
            check.due("shots() after two there", x.shots(), 2);
        }
        WhiteSlopes y = layersThatSlideTwice(season, 29);
        y.path(4, 2);
        check.due("shots() for SIZE 2", y.shots(), 1);
        y.path(4, 1);
        check.due("shots() for SIZE 1 too", y.shots(), NONE);
    }
}
