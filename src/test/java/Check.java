/** Compares answers with the ones that are due, and ends a test with exit code 1 if one was not. */
final class Check {
    private final String test;
    private String during = "";
    private int wrong = 0;
    private int all = 0;

    Check(String test) {
        this.test = test;
    }

    /** What is looked at from now on, for what is printed. */
    void during(String what) {
        during = what.isEmpty() ? "" : what + ": ";
    }

    void due(String call, long got, long want) {
        all++;
        if (got != want) {
            wrong++;
            System.out.println(test + ": " + during + call + " answered " + got + ", due is " + want);
        }
    }

    void due(String call, boolean got, boolean want) {
        due(call, got ? 1 : 0, want ? 1 : 0);
    }

    void finish() {
        System.out.println(test + ": " + (all - wrong) + " of " + all + " answers are as due");
        if (wrong != 0) {
            System.exit(1);
        }
    }

    /** An object on which so much snow fell at all heights, a day for each amount, with this warmth. */
    static WhiteSlopes winter(int degrees, int... amounts) {
        WhiteSlopes x = new WhiteSlopes();
        for (int height = 0; height < 3; height++) {
            x.warmth(height, degrees);
        }
        snowDays(x, amounts);
        return x;
    }

    static void snowDays(WhiteSlopes x, int... amounts) {
        for (int amount : amounts) {
            x.snow(0, amount);
            x.go(1);
        }
    }
}
