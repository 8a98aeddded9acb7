/** Where a bound is looked at: in the first DAYS, or in the last ones, so that NOW is 400 when it is asked. */
enum Season {
    FIRST, LAST;

    static final int LAST_DAY = 400;

    /** An object without snow that has so many DAYS to go: from DAY 0 on, or those up to DAY 400. */
    WhiteSlopes with(int days) {
        WhiteSlopes x = new WhiteSlopes();
        rest(x, this == LAST ? LAST_DAY - days : 0);
        return x;
    }

    /** So much SNOW everywhere, a DAY for each amount, with this WARMTH; in the LAST season NOW is 400 then. */
    WhiteSlopes winter(int degrees, int... amounts) {
        return winterWith(0, degrees, amounts);
    }

    /** Such a winter, with so many DAYS to go after it. */
    WhiteSlopes winterWith(int left, int degrees, int... amounts) {
        WhiteSlopes x = with(amounts.length + left);
        warm(x, degrees);
        fall(x, amounts);
        return x;
    }

    static void warm(WhiteSlopes x, int degrees) {
        for (int height = 0; height < 3; height++) {
            x.warmth(height, degrees);
        }
    }

    static void fall(WhiteSlopes x, int... amounts) {
        for (int amount : amounts) {
            for (int height = 0; height < 3; height++) {
                x.snow(height, amount);
            }
            x.go(1);
        }
    }

    /** A DAY with SNOW and WIND: the way to MASSES that are no whole tens. */
    static void drift(WhiteSlopes x, int side, int force, int amount) {
        x.wind(side, force);
        fall(x, amount);
    }

    static void rest(WhiteSlopes x, int days) {
        for (int left = days; left > 0; left -= 30) {
            x.go(Math.min(left, 30));
        }
    }
}
