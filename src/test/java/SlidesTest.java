/** Promises 8 and 9: slide, shot. */
public final class SlidesTest {
    private static final Check CHECK = new Check("SlidesTest");

    public static void main(String[] args) {
        slideTakesLayers();
        slideRefused();
        shotTakesLayers();
        shotDoesNothing();
        shotRefused();
        CHECK.finish();
    }

    private static void slideTakesLayers() {
        WhiteSlopes x = Check.winter(-5, 10, 20, 30, 40);
        CHECK.due("slide(5, 1)", x.slide(5, 1), 700);
        CHECK.due("layers left", x.told(5, 0), 2);
        CHECK.due("mass left", x.told(5, 1), 300);
        CHECK.due("top bears nothing", x.layer(5, 1, 3), 0);
        CHECK.due("others stay", x.told(4, 0), 4);
        CHECK.due("slid", x.count(4), 700);
        CHECK.due("slide(5, 0)", x.slide(5, 0), 200);
        CHECK.due("slide(11, 2)", x.slide(11, 2), 400);
        CHECK.due("slid in all", x.count(4), 1300);
        CHECK.due("on the slopes", x.count(1), 12 * 1000 - 1300);
        Check.snowDays(x, 5);
        CHECK.due("new snow on what is left", x.layer(5, 1, 1), 50);
        CHECK.due("of age 0", x.layer(5, 1, 2), 0);
        WhiteSlopes y = Check.winter(1, 10, 10, 10);
        y.warmth(0, -5);
        y.slide(0, 0);
        Check.snowDays(y, 5);
        CHECK.due("new where crust was", y.layer(0, 1, 0), 0);
    }

    private static void slideRefused() {
        WhiteSlopes x = Check.winter(-5, 10, 20);
        x.watch(0);
        int[][] wrong = {{-1, 0}, {12, 0}, {0, -1}, {0, 1}, {0, 2}, {0, 9}, {0, 10}, {Integer.MIN_VALUE, 0},
            {Integer.MAX_VALUE, 0}, {0, Integer.MIN_VALUE}, {0, Integer.MAX_VALUE}};
        for (int[] w : wrong) {
            CHECK.due("slide(" + w[0] + ", " + w[1] + ")", x.slide(w[0], w[1]), -1);
        }
        CHECK.due("slide refused takes nothing", x.count(4), 0);
        x.go(1);
        CHECK.due("and counts as none", x.right(3), 1);
        CHECK.due("on bare ground", new WhiteSlopes().slide(0, 0), -1);
    }

    private static void shotTakesLayers() {
        WhiteSlopes x = Check.winter(-5, 50, 0, 0, 20, 30);
        CHECK.due("why", x.told(3, 5), 1);
        CHECK.due("likely 2", x.told(3, 2), 2);
        CHECK.due("shot(3)", x.shot(3), 300);
        CHECK.due("layers left", x.told(3, 0), 2);
        CHECK.due("slid", x.count(4), 300);
        CHECK.due("shot(3) again", x.shot(3), 0);
        CHECK.due("others stay", x.told(2, 0), 3);
        WhiteSlopes y = Check.winter(-5, 10, 60);
        CHECK.due("likely 3", y.told(0, 2), 3);
        CHECK.due("shot(0)", y.shot(0), 600);
    }

    private static void shotDoesNothing() {
        WhiteSlopes x = Check.winter(-5, 10, 20);
        CHECK.due("likely 1", x.told(0, 2), 1);
        CHECK.due("shot where likely is 1", x.shot(0), 0);
        CHECK.due("shot on bare ground", new WhiteSlopes().shot(0), 0);
        CHECK.due("nothing slid", x.count(4), 0);
    }

    private static void shotRefused() {
        WhiteSlopes x = Check.winter(-5, 10, 60);
        int[] wrong = {-1, 12, Integer.MIN_VALUE, Integer.MAX_VALUE};
        for (int klass : wrong) {
            CHECK.due("shot(" + klass + ")", x.shot(klass), -1);
        }
        CHECK.due("shot refused takes nothing", x.count(4), 0);
    }
}
