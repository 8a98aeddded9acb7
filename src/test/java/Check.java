/** Compares answers with the ones that are due, and ends a test with exit code 1 if one was not. */
final class Check {
    private final String test;
    private int wrong = 0;
    private int all = 0;

    Check(String test) {
        this.test = test;
    }

    void due(String call, long got, long want) {
        all++;
        if (got != want) {
            wrong++;
            System.out.println(test + ": " + call + " answered " + got + ", due is " + want);
        }
    }

    void due(String call, boolean got, boolean want) {
        due(call, got ? 1 : 0, want ? 1 : 0);
    }

    void finish() {
        System.out.println(test + ": " + (all - wrong) + " of " + all + " answers are as due");
        if (wrong != 0) {
            System.exit(1);
        }
    }

    /** An object on which so much snow fell at all heights, a day for each amount, with this warmth. */
    static WhiteSlopes winter(int degrees, int... amounts) {
        WhiteSlopes x = new WhiteSlopes();
        for (int height = 0; height < 3; height++) {
            x.warmth(height, degrees);
        }
        snowDays(x, amounts);
        return x;
    }

    static void snowDays(WhiteSlopes x, int... amounts) {
        for (int amount : amounts) {
            x.snow(0, amount);
            x.go(1);
        }
    }

    /** All that can be asked without changing anything, as one text. */
    static String state(WhiteSlopes x) {
        StringBuilder text = new StringBuilder();
        for (int klass = 0; klass < 12; klass++) {
            for (int what = 0; what < 6; what++) {
                text.append(x.told(klass, what)).append(' ');
            }
            for (int k = 0; k < 10; k++) {
                for (int what = 0; what < 5; what++) {
                    text.append(x.layer(klass, k, what)).append(' ');
                }
            }
            text.append(x.matched(klass)).append('\n');
        }
        for (int what = 0; what < 8; what++) {
            text.append(x.count(what)).append(' ').append(x.right(what)).append(' ');
        }
        return text.append(x.shut()).append(' ').append(x.shots()).append(' ').append(x.nearest()).toString();
    }
}
