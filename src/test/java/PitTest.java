/** Promises 13 to 16: pit, seen, matched, nearest. */
public final class PitTest {
    private static final Check CHECK = new Check("PitTest");

    public static void main(String[] args) {
        pitIsEmptied();
        thingsAreSeen();
        seenRefused();
        pairsCost();
        leavingOutCosts();
        orderCounts();
        matchedRefused();
        nearestOfLikeOnes();
        CHECK.finish();
    }

    private static void pitIsEmptied() {
        WhiteSlopes x = new WhiteSlopes();
        CHECK.due("pit() at first", x.pit(), 0);
        x.seen(0, 100);
        x.seen(1, 100);
        CHECK.due("pit() of two", x.pit(), 2);
        CHECK.due("nothing left", x.count(7), 0);
        CHECK.due("matched(0)", x.matched(0), 0);
        CHECK.due("pit() again", x.pit(), 0);
    }

    private static void thingsAreSeen() {
        WhiteSlopes x = new WhiteSlopes();
        int[][] things = {{0, 1}, {1, 9999}, {2, 50}, {3, 7}, {0, 8}, {1, 9}};
        for (int i = 0; i < things.length; i++) {
            CHECK.due("seen " + i, x.seen(things[i][0], things[i][1]), i + 1);
            CHECK.due("count(7) " + i, x.count(7), i + 1);
        }
        CHECK.due("a seventh thing", x.seen(0, 1), -1);
        CHECK.due("six still", x.count(7), 6);
        CHECK.due("against bare ground", x.matched(0), 180);
        x.pit();
        CHECK.due("seen after pit()", x.seen(3, 1), 1);
    }

    private static void seenRefused() {
        WhiteSlopes x = new WhiteSlopes();
        int[][] wrong = {{-1, 5}, {4, 5}, {0, 0}, {0, 10000}, {0, -1}, {Integer.MIN_VALUE, 5},
            {Integer.MAX_VALUE, 5}, {0, Integer.MIN_VALUE}, {0, Integer.MAX_VALUE}};
        for (int[] w : wrong) {
            CHECK.due("seen(" + w[0] + ", " + w[1] + ")", x.seen(w[0], w[1]), -1);
        }
        CHECK.due("seen refused changes nothing", x.count(7), 0);
    }

    private static void pairsCost() {
        int[][] things = {{0, 100}, {0, 109}, {0, 110}, {0, 91}, {0, 90}, {1, 100}, {3, 219}, {2, 85}, {0, 699},
            {0, 700}, {0, 9999}, {1, 299}, {1, 300}, {1, 310}};
        int[] costs = {0, 0, 1, 0, 1, 40, 51, 41, 59, 60, 60, 59, 60, 60};
        for (int i = 0; i < things.length; i++) {
            WhiteSlopes x = Check.winter(-5, 10);
            x.seen(things[i][0], things[i][1]);
            CHECK.due("a pair, case " + i, x.matched(7), costs[i]);
        }
    }

    private static void leavingOutCosts() {
        WhiteSlopes x = Check.winter(-5, 10, 20, 30);
        CHECK.due("an empty pit", x.matched(0), 90);
        x.seen(0, 300);
        CHECK.due("top alone", x.matched(0), 60);
        x.seen(0, 100);
        CHECK.due("top and ground", x.matched(0), 30);
        x.seen(0, 50);
        CHECK.due("three for three", x.matched(0), 15);
        x.seen(2, 5000);
        CHECK.due("a fourth one is left out", x.matched(0), 45);
    }

    private static void orderCounts() {
        WhiteSlopes x = Check.winter(-5, 10, 90);
        x.seen(0, 900);
        x.seen(0, 100);
        CHECK.due("from the top down", x.matched(0), 0);
        x.pit();
        x.seen(0, 100);
        x.seen(0, 900);
        CHECK.due("never crossed", x.matched(0), 60);
        WhiteSlopes y = Check.winter(-5, 10, 0, 0, 90);
        y.seen(0, 900);
        y.seen(1, 100);
        CHECK.due("kinds in order", y.matched(0), 0);
        WhiteSlopes z = Check.winter(-5, 1, 2, 3, 4, 5, 6, 7, 8, 9, 10);
        z.seen(1, 10);
        CHECK.due("ten layers, the lowest one matched", z.matched(0), 270);
        z.pit();
        z.seen(0, 100);
        CHECK.due("ten layers, the highest one matched", z.matched(0), 270);
    }

    private static void matchedRefused() {
        WhiteSlopes x = Check.winter(-5, 10);
        int[] wrong = {-1, 12, Integer.MIN_VALUE, Integer.MAX_VALUE};
        for (int klass : wrong) {
            CHECK.due("matched(" + klass + ")", x.matched(klass), -1);
        }
    }

    private static void nearestOfLikeOnes() {
        WhiteSlopes x = new WhiteSlopes();
        CHECK.due("all alike", x.nearest(), 0);
        x.snow(0, 10);
        x.snow(1, 20);
        x.snow(2, 30);
        x.go(1);
        x.seen(0, 300);
        CHECK.due("the highest", x.nearest(), 8);
        x.pit();
        x.seen(0, 200);
        CHECK.due("in the middle", x.nearest(), 4);
        x.pit();
        x.seen(0, 150);
        CHECK.due("of like ones the least", x.nearest(), 0);
        x.wind(0, 9);
        x.go(1);
        x.pit();
        x.seen(0, 408);
        CHECK.due("where it drifted", x.nearest(), 10);
        CHECK.due("exactly", x.matched(10), 0);
        x.wind(1, 9);
        x.go(1);
        CHECK.due("the last class is as near", x.matched(11), 0);
        CHECK.due("but later", x.nearest(), 10);
        WhiteSlopes y = Check.winter(-5, 10, 20);
        y.slide(6, 0);
        y.slide(9, 0);
        CHECK.due("an empty pit is nearest to fewest layers", y.nearest(), 6);
        y.slide(1, 0);
        CHECK.due("class 1", y.nearest(), 1);
        y.slide(0, 0);
        CHECK.due("class 0", y.nearest(), 0);
    }
}
