/** Promises 17 and 18: watch, right. */
public final class VerdictsTest {
    private static final Check CHECK = new Check("VerdictsTest");

    public static void main(String[] args) {
        watchTells();
        watchRefused();
        allFour();
        dangerOfTheFirstWatch();
        dangerThree();
        slidesAhead();
        shotsDoNotCount();
        watchedOfOneDay();
        rightRefused();
        CHECK.finish();
    }

    private static void rights(String when, WhiteSlopes x, int hits, int falseOnes, int missed, int quiet) {
        CHECK.due(when + ": right(0)", x.right(0), hits);
        CHECK.due(when + ": right(1)", x.right(1), falseOnes);
        CHECK.due(when + ": right(2)", x.right(2), missed);
        CHECK.due(when + ": right(3)", x.right(3), quiet);
    }

    private static void watchTells() {
        WhiteSlopes x = Check.winter(-5, 10, 27);
        x.slide(4, 0);
        for (int klass = 0; klass < 12; klass++) {
            CHECK.due("watch(" + klass + ")", x.watch(klass), klass == 4 ? 1 : 4);
        }
        rights("before the day ends", x, 0, 0, 0, 0);
        x.go(1);
        rights("after", x, 0, 11, 1, 0);
    }

    private static void watchRefused() {
        WhiteSlopes x = Check.winter(-5, 10, 60);
        int[] wrong = {-1, 12, Integer.MIN_VALUE, Integer.MAX_VALUE};
        for (int klass : wrong) {
            CHECK.due("watch(" + klass + ")", x.watch(klass), -1);
        }
        x.go(1);
        rights("none watched", x, 0, 0, 0, 0);
        WhiteSlopes y = new WhiteSlopes();
        for (int i = 0; i < 13; i++) {
            y.go(30);
        }
        y.go(9);
        CHECK.due("watch(0) on 399", y.watch(0), 1);
        y.go(1);
        CHECK.due("watch(0) on 400", y.watch(0), -1);
        y.go(1);
        rights("at the end", y, 0, 0, 0, 1);
    }

    private static void allFour() {
        WhiteSlopes x = Check.winter(-5, 10, 0, 0, 20);
        x.wind(0, 9);
        x.snow(0, 200);
        x.snow(1, 0);
        x.snow(2, 0);
        x.go(1);
        for (int klass = 0; klass < 12; klass++) {
            x.watch(klass);
        }
        x.slide(0, 0);
        x.slide(1, 1);
        x.slide(1, 0);
        x.slide(5, 0);
        x.go(1);
        rights("one day", x, 2, 2, 1, 7);
        x.watch(3);
        x.go(1);
        rights("another", x, 2, 3, 1, 7);
    }

    private static void dangerOfTheFirstWatch() {
        WhiteSlopes x = Check.winter(-5, 10, 60);
        CHECK.due("first watch", x.watch(0), 5);
        x.slide(0, 0);
        CHECK.due("second watch", x.watch(0), 1);
        x.go(1);
        rights("as it was first", x, 1, 0, 0, 0);
    }

    private static void dangerThree() {
        WhiteSlopes three = Check.winter(-5, 10, 0, 0, 50);
        CHECK.due("danger 3", three.watch(0), 3);
        three.go(1);
        rights("3 is high", three, 0, 1, 0, 0);
        WhiteSlopes two = Check.winter(-5, 10, 0, 0, 49);
        CHECK.due("danger 2", two.watch(0), 2);
        two.go(1);
        rights("2 is low", two, 0, 0, 0, 1);
    }

    private static void slidesAhead() {
        WhiteSlopes x = Check.winter(-5, 10, 60);
        x.slide(0, 0);
        x.watch(0);
        x.go(1);
        rights("a slide ahead of the watch", x, 0, 0, 1, 0);
        x.slide(1, 0);
        x.go(1);
        x.watch(1);
        x.go(1);
        rights("a slide of the day before", x, 0, 0, 1, 1);
    }

    private static void shotsDoNotCount() {
        WhiteSlopes x = Check.winter(-5, 10, 60);
        x.watch(0);
        CHECK.due("a shot", x.shot(0), 600);
        x.shot(1);
        x.watch(1);
        x.go(1);
        rights("shots", x, 0, 1, 0, 1);
        Check.snowDays(x, 60, 60);
        x.watch(0);
        x.slide(0, 1);
        x.shot(0);
        x.go(1);
        rights("a slide and a shot", x, 1, 1, 0, 1);
    }

    private static void watchedOfOneDay() {
        WhiteSlopes x = Check.winter(-5, 10, 60);
        x.watch(0);
        x.watch(0);
        x.go(0);
        rights("go(0) ends no day", x, 0, 0, 0, 0);
        x.go(5);
        rights("once in five days", x, 0, 1, 0, 0);
        x.slide(0, 0);
        x.go(1);
        rights("not watched", x, 0, 1, 0, 0);
    }

    private static void rightRefused() {
        WhiteSlopes x = new WhiteSlopes();
        int[] wrong = {-1, 4, Integer.MIN_VALUE, Integer.MAX_VALUE};
        for (int what : wrong) {
            CHECK.due("right(" + what + ")", x.right(what), -1);
        }
        rights("at first", x, 0, 0, 0, 0);
    }
}
