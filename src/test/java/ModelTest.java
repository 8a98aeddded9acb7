import java.util.Random;

/** Long runs of mixed calls on the program and on PlainModel: all promises at once, wrong inputs among them. */
public final class ModelTest {
    private static final int RUNS = 600;
    private static final int CALLS = 512;
    private static final int[] STRANGE = {-2, -1, 3, 4, 5, 6, 8, 9, 10, 11, 12, 13, 31, -100, -101, -31, 201, 10000,
        Integer.MIN_VALUE, Integer.MAX_VALUE};

    private static final Check CHECK = new Check("ModelTest");
    private static Random random;
    private static WhiteSlopes x;
    private static PlainModel model;
    private static int cold;
    private static int heavy;
    private static int noShotsHelp = 0;
    private static int lastDays = 0;

    public static void main(String[] args) {
        for (int run = 0; run < RUNS; run++) {
            random = new Random(run);
            x = new WhiteSlopes();
            model = new PlainModel();
            cold = random.nextInt(4);
            heavy = random.nextInt(4);
            int calls = run % 4 == 0 ? goLate() : 0;
            for (int call = calls; call < CALLS; call++) {
                oneCall("run " + run + ", call " + call + ": ");
            }
            lastDays += model.count(0) == 400 ? 1 : 0;
        }
        CHECK.due("some runs reach NONE of shots()", noShotsHelp > 0, true);
        CHECK.due("some runs reach DAY 400", lastDays > RUNS / 5, true);
        CHECK.finish();
    }

    /** Many DAYS at once, so that the run comes to the last one; how many calls that took. */
    private static int goLate() {
        for (int call = 0; call < 11; call++) {
            CHECK.due("go(30) at first", x.go(30), model.go(30));
        }
        return 11;
    }

    /** Mostly a value that can be, at times one that can't. */
    private static int pick(int least, int greatest) {
        return random.nextInt(40) == 0 ? STRANGE[random.nextInt(STRANGE.length)]
            : least + random.nextInt(greatest - least + 1);
    }

    private static int snowAmount() {
        int[] greatest = {3, 12, 30, 200};
        return random.nextInt(5) == 0 ? pick(-1, 200) : pick(0, greatest[random.nextInt(heavy + 1)]);
    }

    private static int degrees() {
        int[] greatest = {10, 3, -5, -8};
        return random.nextInt(9) == 0 ? pick(-100, 10) : pick(-30, greatest[cold]);
    }

    private static void oneCall(String at) {
        int call = random.nextInt(30);
        if (call < 14) {
            tell(at, call);
        } else {
            ask(at, call);
        }
    }

    private static void tell(String at, int call) {
        if (call < 3) {
            int a = pick(0, 2);
            int b = snowAmount();
            CHECK.due(at + "snow(" + a + ", " + b + ")", x.snow(a, b) ? 1 : 0, model.snow(a, b));
        } else if (call < 5) {
            int a = pick(0, 2);
            int b = degrees();
            CHECK.due(at + "warmth(" + a + ", " + b + ")", x.warmth(a, b) ? 1 : 0, model.warmth(a, b));
        } else if (call < 7) {
            int a = pick(0, 3);
            int b = pick(0, 9);
            CHECK.due(at + "wind(" + a + ", " + b + ")", x.wind(a, b) ? 1 : 0, model.wind(a, b));
        } else if (call < 11) {
            int n = random.nextInt(12) == 0 ? pick(0, 30) : pick(1, 2);
            CHECK.due(at + "go(" + n + ")", x.go(n), model.go(n));
        } else if (call == 11) {
            int c = pick(0, 11);
            int k = pick(0, 6);
            CHECK.due(at + "slide(" + c + ", " + k + ")", x.slide(c, k), model.slide(c, k));
        } else if (call == 12) {
            int c = pick(0, 11);
            CHECK.due(at + "shot(" + c + ")", x.shot(c), model.shot(c));
        } else {
            int c = pick(0, 11);
            int size = pick(0, 2);
            CHECK.due(at + "path(" + c + ", " + size + ")", x.path(c, size), model.path(c, size));
        }
    }

    private static void ask(String at, int call) {
        int c = pick(0, 11);
        switch (call) {
            case 14, 15, 16 -> {
                int k = pick(0, 9);
                int what = pick(0, 4);
                String layer = at + "layer(" + c + ", " + k + ", " + what + ")";
                CHECK.due(layer, x.layer(c, k, what), model.layer(c, k, what));
            }
            case 17, 18, 19 -> {
                int what = pick(0, 5);
                CHECK.due(at + "told(" + c + ", " + what + ")", x.told(c, what), model.told(c, what));
            }
            case 20 -> CHECK.due(at + "shut()", x.shut(), model.shut());
            case 21 -> {
                int shots = x.shots();
                noShotsHelp += shots == -1 ? 1 : 0;
                CHECK.due(at + "shots()", shots, model.shots());
            }
            case 22, 23 -> {
                int mass = random.nextInt(10) == 0 ? pick(1, 9999) : pick(1, 400);
                int kind = pick(0, 3);
                CHECK.due(at + "seen(" + kind + ", " + mass + ")", x.seen(kind, mass), model.seen(kind, mass));
            }
            case 24 -> CHECK.due(at + "matched(" + c + ")", x.matched(c), model.matched(c));
            case 25, 26 -> CHECK.due(at + "watch(" + c + ")", x.watch(c), model.watch(c));
            case 27 -> {
                int what = pick(0, 3);
                CHECK.due(at + "right(" + what + ")", x.right(what), model.right(what));
            }
            case 28 -> {
                int what = pick(0, 7);
                CHECK.due(at + "count(" + what + ")", x.count(what), model.count(what));
            }
            default -> {
                if (random.nextInt(4) == 0) {
                    CHECK.due(at + "nearest()", x.nearest(), model.nearest());
                } else if (random.nextInt(3) == 0) {
                    CHECK.due(at + "pit()", x.pit(), model.pit());
                }
            }
        }
    }
}
