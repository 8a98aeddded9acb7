/** Promises 6 and 7: layer, told. */
public final class LayersTest {
    private static final Check CHECK = new Check("LayersTest");

    public static void main(String[] args) {
        layerTells();
        bearing();
        indexIsCapped();
        layerRefused();
        toldTells();
        whyOfLikeOnes();
        likelyEdges();
        sizeEdges();
        spreadAndDanger();
        toldRefused();
        CHECK.finish();
    }

    private static void layerTells() {
        WhiteSlopes x = Check.winter(-5, 10, 20, 30);
        int[][] due = {{0, 100, 2, 500, 80}, {0, 200, 1, 300, 133}, {0, 300, 0, 0, -1}};
        for (int klass = 0; klass < 12; klass++) {
            for (int k = 0; k < 3; k++) {
                for (int what = 0; what < 5; what++) {
                    String call = "layer(" + klass + ", " + k + ", " + what + ")";
                    CHECK.due(call, x.layer(klass, k, what), due[k][what]);
                }
            }
        }
    }

    private static void bearing() {
        WhiteSlopes settled = Check.winter(-5, 10, 0, 0, 40);
        CHECK.due("settled bears 900", settled.layer(0, 0, 4), 225);
        WhiteSlopes weak = Check.winter(-20, 10, 0, 0, 40);
        CHECK.due("weak of 3 days bears 295", weak.layer(0, 0, 4), 73);
        weak.go(10);
        CHECK.due("weak of 13 days bears 445", weak.layer(0, 0, 4), 111);
        WhiteSlopes crust = Check.winter(1, 10);
        crust.warmth(0, -5);
        Check.snowDays(crust, 70);
        CHECK.due("crust bears 3000", crust.layer(0, 0, 4), 428);
        WhiteSlopes fresh = Check.winter(-5, 10, 40);
        CHECK.due("new bears 400", fresh.layer(0, 0, 4), 100);
        CHECK.due("no less, no more", Check.winter(-5, 10, 10).layer(0, 0, 4), 400);
        CHECK.due("so for settled", Check.winter(-5, 10, 0, 0, 10).layer(0, 0, 4), 900);
        WhiteSlopes thousand = Check.winter(1, 10);
        thousand.warmth(0, -5);
        Check.snowDays(thousand, 100);
        CHECK.due("and for crust", thousand.layer(0, 0, 4), 300);
    }

    private static void indexIsCapped() {
        WhiteSlopes x = Check.winter(-5, 10, 4);
        CHECK.due("at most 999", x.layer(0, 0, 4), 999);
        WhiteSlopes y = Check.winter(1, 10);
        y.warmth(0, -5);
        Check.snowDays(y, 30);
        CHECK.due("1000 is 999", y.layer(0, 0, 4), 999);
        Check.snowDays(y, 1);
        CHECK.due("below it", y.layer(0, 0, 4), 967);
    }

    private static void layerRefused() {
        WhiteSlopes x = Check.winter(-5, 10, 20);
        int[][] wrong = {{-1, 0, 0}, {12, 0, 0}, {0, -1, 0}, {0, 2, 0}, {0, 10, 1}, {0, 0, -1}, {0, 0, 5},
            {Integer.MIN_VALUE, 0, 0}, {Integer.MAX_VALUE, 0, 0}, {0, Integer.MIN_VALUE, 0},
            {0, Integer.MAX_VALUE, 0}, {0, 0, Integer.MIN_VALUE}, {0, 0, Integer.MAX_VALUE}, {0, 2, 3}};
        for (int[] w : wrong) {
            String call = "layer(" + w[0] + ", " + w[1] + ", " + w[2] + ")";
            CHECK.due(call, x.layer(w[0], w[1], w[2]), -1);
        }
        CHECK.due("no layer at all", new WhiteSlopes().layer(0, 0, 3), -1);
    }

    private static void toldTells() {
        WhiteSlopes x = Check.winter(-5, 10, 20, 30);
        int[] due = {3, 600, 3, 2, 5, 0};
        for (int klass = 0; klass < 12; klass++) {
            for (int what = 0; what < 6; what++) {
                CHECK.due("told(" + klass + ", " + what + ")", x.told(klass, what), due[what]);
            }
        }
        WhiteSlopes y = Check.winter(-5, 10);
        int[] single = {1, 100, 0, 0, 1, -1};
        for (int what = 0; what < 6; what++) {
            CHECK.due("one layer, told(0, " + what + ")", y.told(0, what), single[what]);
        }
    }

    private static void whyOfLikeOnes() {
        WhiteSlopes x = Check.winter(1, 20, 5, 5);
        CHECK.due("crusts of like index", x.layer(0, 0, 4), 999);
        CHECK.due("the other", x.layer(0, 1, 4), 999);
        CHECK.due("why is the highest", x.told(0, 5), 1);
        CHECK.due("likely 0 with a why", x.told(0, 2), 0);
        CHECK.due("danger 1", x.told(0, 4), 1);
        WhiteSlopes y = Check.winter(-20, 1, 29, 200, 200, 200);
        CHECK.due("index 4", y.layer(0, 0, 4), 4);
        CHECK.due("index 4 too", y.layer(0, 1, 4), 4);
        CHECK.due("the higher of both", y.told(0, 5), 1);
        WhiteSlopes z = Check.winter(-5, 50, 0, 0, 20, 30);
        CHECK.due("settled below bears more", z.layer(0, 0, 4), 180);
        CHECK.due("new in between", z.layer(0, 1, 4), 133);
        CHECK.due("the least one", z.told(0, 5), 1);
    }

    /** With a new layer below, INDEX is 40000 by LOAD. */
    private static void likelyEdges() {
        int[] amounts = {41, 40, 27, 26, 14, 13};
        int[] likely = {3, 2, 2, 1, 1, 0};
        for (int i = 0; i < amounts.length; i++) {
            WhiteSlopes x = Check.winter(-5, 10, amounts[i]);
            CHECK.due("likely under " + amounts[i], x.told(0, 2), likely[i]);
        }
        WhiteSlopes weak = Check.winter(-20, 10, 0, 0, 10);
        weak.go(9);
        CHECK.due("weak of 12 days under 100", weak.layer(0, 0, 4), 430);
        WhiteSlopes edge = Check.winter(-5, 10, 0, 0, 90);
        CHECK.due("index 100", edge.layer(0, 0, 4), 100);
        CHECK.due("is likely 2", edge.told(0, 2), 2);
        WhiteSlopes edge150 = Check.winter(-5, 10, 0, 0, 60);
        CHECK.due("index 150", edge150.layer(0, 0, 4), 150);
        CHECK.due("is likely 1", edge150.told(0, 2), 1);
        WhiteSlopes edge300 = Check.winter(-5, 10, 0, 0, 30);
        CHECK.due("index 300", edge300.layer(0, 0, 4), 300);
        CHECK.due("is likely 0", edge300.told(0, 2), 0);
        WhiteSlopes below300 = Check.winter(-5, 10, 0, 0, 31);
        CHECK.due("index 290 is likely 1", below300.told(0, 2), 1);
        WhiteSlopes drifted = drifted(new int[] {10}, 0, 4, 48);
        CHECK.due("index 99", drifted.layer(0, 0, 4), 99);
        CHECK.due("is likely 3", drifted.told(0, 2), 3);
        WhiteSlopes drifted300 = drifted(new int[] {10, 0, 0}, 0, 9, 47);
        CHECK.due("index 299", drifted300.layer(0, 0, 4), 299);
        CHECK.due("is likely 1 too", drifted300.told(0, 2), 1);
    }

    /** Wind makes loads that are no whole tens. */
    private static WhiteSlopes drifted(int[] amounts, int side, int force, int last) {
        WhiteSlopes x = Check.winter(-5, amounts);
        x.wind(side, force);
        Check.snowDays(x, last);
        return x;
    }

    private static void sizeEdges() {
        int[] amounts = {50, 49, 20, 19};
        int[] sizes = {2, 1, 1, 0};
        for (int i = 0; i < amounts.length; i++) {
            WhiteSlopes x = Check.winter(-5, 10, amounts[i]);
            CHECK.due("size under " + amounts[i], x.told(0, 3), sizes[i]);
        }
        WhiteSlopes y = Check.winter(-5, 60);
        CHECK.due("size without load", y.told(0, 3), 0);
        WhiteSlopes below500 = drifted(new int[] {10}, 0, 7, 39);
        CHECK.due("load 499", below500.layer(2, 0, 3), 499);
        CHECK.due("is size 1", below500.told(2, 3), 1);
        WhiteSlopes below200 = drifted(new int[] {10}, 0, 9, 31);
        CHECK.due("load 199", below200.layer(0, 0, 3), 199);
        CHECK.due("is size 0", below200.told(0, 3), 0);
    }

    private static void spreadAndDanger() {
        int[] amounts = {14, 19, 20, 26, 27, 40, 41, 49, 50};
        int[] dangers = {1, 1, 2, 2, 4, 4, 5, 5, 5};
        for (int i = 0; i < amounts.length; i++) {
            WhiteSlopes x = Check.winter(-5, 10, amounts[i]);
            CHECK.due("danger under " + amounts[i], x.told(0, 4), dangers[i]);
        }
        WhiteSlopes x = Check.winter(-5, 10, 27);
        x.slide(0, 0);
        x.slide(1, 0);
        CHECK.due("two likely: spread", x.told(2, 4), 4);
        CHECK.due("likely 0 stays 1", x.told(0, 4), 1);
        x.slide(2, 0);
        CHECK.due("one likely: none", x.told(3, 4), 3);
        CHECK.due("elsewhere spread", x.told(7, 4), 4);
        x.slide(9, 0);
        x.slide(10, 0);
        CHECK.due("first and last side", x.told(8, 4), 4);
        spreadWithLikelyOne();
        WhiteSlopes large = Check.winter(-5, 10, 0, 0, 50);
        CHECK.due("settled under 500: likely 1", large.told(0, 2), 1);
        CHECK.due("size 2", large.told(0, 3), 2);
        CHECK.due("danger 3", large.told(0, 4), 3);
    }

    /** Wind from the north leaves LIKELY 1 there, while east and west are LIKELY 2. */
    private static void spreadWithLikelyOne() {
        WhiteSlopes x = Check.winter(-5, 10);
        x.wind(0, 9);
        Check.snowDays(x, 30);
        CHECK.due("likely 1", x.told(0, 2), 1);
        CHECK.due("size 0", x.told(0, 3), 0);
        CHECK.due("east is likely 2", x.told(1, 2), 2);
        CHECK.due("1 and 1 and 1, less 1", x.told(0, 4), 2);
        CHECK.due("east: 1 and 2 and 1", x.told(1, 4), 4);
    }

    private static void toldRefused() {
        WhiteSlopes x = Check.winter(-5, 10, 20);
        int[][] wrong = {{-1, 0}, {12, 0}, {0, -1}, {0, 6}, {Integer.MIN_VALUE, 4}, {Integer.MAX_VALUE, 4},
            {0, Integer.MIN_VALUE}, {0, Integer.MAX_VALUE}};
        for (int[] w : wrong) {
            CHECK.due("told(" + w[0] + ", " + w[1] + ")", x.told(w[0], w[1]), -1);
        }
    }
}
