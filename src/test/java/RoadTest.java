/** Promises 10 to 12: path, shut, shots. */
public final class RoadTest {
    private static final Check CHECK = new Check("RoadTest");

    public static void main(String[] args) {
        pathsAreNumbered();
        pathRefused();
        shutByLikelyAndSize();
        fewestShots();
        shotsThatDoNotHelp();
        CHECK.finish();
    }

    private static void pathsAreNumbered() {
        WhiteSlopes x = new WhiteSlopes();
        for (int number = 0; number < 10; number++) {
            CHECK.due("paths before " + number, x.count(6), number);
            CHECK.due("path " + number, x.path(11 - number, number % 3), number);
        }
        CHECK.due("the eleventh path", x.path(0, 0), -1);
        CHECK.due("ten paths", x.count(6), 10);
    }

    private static void pathRefused() {
        WhiteSlopes x = Check.winter(-5, 10, 60);
        int[][] wrong = {{-1, 0}, {12, 0}, {0, -1}, {0, 3}, {Integer.MIN_VALUE, 0}, {Integer.MAX_VALUE, 0},
            {0, Integer.MIN_VALUE}, {0, Integer.MAX_VALUE}};
        for (int[] w : wrong) {
            CHECK.due("path(" + w[0] + ", " + w[1] + ")", x.path(w[0], w[1]), -1);
        }
        CHECK.due("path refused changes nothing", x.count(6), 0);
        CHECK.due("nor shuts", x.shut(), 0);
        CHECK.due("path(0, 0)", x.path(0, 0), 0);
    }

    private static void shutByLikelyAndSize() {
        int[] amounts = {26, 27, 49, 50};
        int[] bits = {0, 3, 3, 7};
        for (int i = 0; i < amounts.length; i++) {
            WhiteSlopes x = Check.winter(-5, 10, amounts[i]);
            x.path(6, 0);
            x.path(6, 1);
            x.path(6, 2);
            CHECK.due("shut() under " + amounts[i], x.shut(), bits[i]);
        }
        WhiteSlopes weak = Check.winter(-30, 1, 0, 0, 19);
        weak.path(0, 0);
        CHECK.due("weak below 190: index 155", weak.layer(0, 0, 4), 155);
        CHECK.due("shut by none", weak.shut(), 0);
        smallSlide();
    }

    /** LIKELY 2 with SIZE 0 needs a WEAK layer of few days and a LOAD from 197 to 199, which drift can make. */
    private static void smallSlide() {
        WhiteSlopes x = Check.winter(-30, 1, 0, 0);
        x.wind(0, 4);
        Check.snowDays(x, 17);
        CHECK.due("load in the south", x.layer(2, 0, 3), 197);
        CHECK.due("index", x.layer(2, 0, 4), 149);
        CHECK.due("likely 2", x.told(2, 2), 2);
        CHECK.due("size 0", x.told(2, 3), 0);
        CHECK.due("danger 2 alone", x.told(2, 4), 2);
        x.path(2, 1);
        x.path(2, 0);
        CHECK.due("shut by size 0", x.shut(), 2);
        CHECK.due("one shot", x.shots(), 1);
    }

    private static void fewestShots() {
        WhiteSlopes x = Check.winter(-5, 10, 45);
        CHECK.due("no path", x.shots(), 0);
        x.path(3, 2);
        CHECK.due("a path out of reach", x.shots(), 0);
        x.path(3, 1);
        CHECK.due("shut() by the second", x.shut(), 2);
        CHECK.due("one shot", x.shots(), 1);
        x.path(3, 0);
        CHECK.due("shut() by both", x.shut(), 6);
        CHECK.due("one shot for both", x.shots(), 1);
        x.path(9, 0);
        x.path(0, 0);
        CHECK.due("three shots", x.shots(), 3);
        x.shot(3);
        CHECK.due("two are left", x.shots(), 2);
        CHECK.due("shut() by two", x.shut(), 24);
    }

    private static void shotsThatDoNotHelp() {
        WhiteSlopes x = Check.winter(-20, 1, 29, 200, 200, 200);
        x.path(0, 2);
        CHECK.due("what is left is too small", x.shots(), 1);
        x.path(4, 1);
        CHECK.due("what is left slides again", x.shots(), -1);
        x.path(8, 2);
        CHECK.due("none does", x.shots(), -1);
        CHECK.due("a shot", x.shot(4), 6000);
        CHECK.due("is likely still", x.told(4, 2), 2);
        CHECK.due("of size 1", x.told(4, 3), 1);
        CHECK.due("shut()", x.shut(), 7);
        CHECK.due("another helps", x.shots(), 3);
        CHECK.due("the other", x.shot(4), 290);
        CHECK.due("open there", x.shut(), 5);
    }
}
