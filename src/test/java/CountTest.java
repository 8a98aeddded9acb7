/** Promise 19: count. */
public final class CountTest {
    private static final Check CHECK = new Check("CountTest");

    public static void main(String[] args) {
        allCounts();
        greatestDanger();
        massIsKept();
        countRefused();
        CHECK.finish();
    }

    private static void allCounts() {
        WhiteSlopes x = Check.winter(-5, 10, 20);
        x.warmth(1, 2);
        x.snow(0, 30);
        x.snow(1, 0);
        x.snow(2, 0);
        x.go(1);
        x.slide(0, 1);
        x.shot(1);
        x.path(3, 1);
        x.path(3, 1);
        x.path(4, 1);
        x.seen(0, 1);
        x.seen(0, 1);
        int fell = 12 * 300 + 4 * 300;
        int slid = 300 + 500;
        int[] due = {3, fell - 48 - slid, fell, 48, slid, 5, 3, 2};
        for (int what = 0; what < 8; what++) {
            CHECK.due("count(" + what + ")", x.count(what), due[what]);
        }
    }

    private static void greatestDanger() {
        WhiteSlopes x = Check.winter(-5, 10, 27);
        CHECK.due("danger 4", x.count(5), 4);
        for (int klass = 0; klass < 11; klass++) {
            x.shot(klass);
        }
        CHECK.due("the last class alone", x.count(5), 3);
        x.shot(11);
        CHECK.due("none", x.count(5), 1);
        WhiteSlopes y = Check.winter(-5, 10, 27);
        for (int klass = 1; klass < 12; klass++) {
            y.shot(klass);
        }
        CHECK.due("the first class alone", y.count(5), 3);
    }

    private static void massIsKept() {
        WhiteSlopes x = Check.winter(3, 30, 1, 20, 200, 0, 40);
        x.warmth(0, -20);
        for (int day = 0; day < 40; day++) {
            x.snow(day % 3, day * 7 % 41);
            x.wind(day % 4, day % 10);
            x.warmth(day % 3, day * 11 % 41 - 30);
            x.slide(day % 12, day % 5);
            x.shot(day * 5 % 12);
            x.go(1);
            CHECK.due("mass on day " + day, x.count(1) + x.count(3) + x.count(4), x.count(2));
        }
    }

    private static void countRefused() {
        WhiteSlopes x = new WhiteSlopes();
        int[] wrong = {-1, 8, Integer.MIN_VALUE, Integer.MAX_VALUE};
        for (int what : wrong) {
            CHECK.due("count(" + what + ")", x.count(what), -1);
        }
    }
}
