import java.math.BigInteger;

/** The inn, luck and oats. */
final class ShareBoundaries {
    private ShareBoundaries() {
    }

    @Says(in = 0, words = "INN by v, w: each of two sets out or waits: both set out: each has v less w; one sets out: he has v, the other one 0; both wait: each has 0")
    static void innsOfAllValues(Check c) {
        for (int v = 0; v <= 99; v++) {
            RoadHolidays x = new RoadHolidays();
            for (int w = 0; w <= 99; w++) {
                c.due("inn " + v + " " + w, rests(v, w), x.inn(v, w, 0));
                c.due("inn " + v + " " + w + " first", v >= w ? 0 : 1, x.inn(v, w, 1));
                c.due("inn " + v + " " + w + " together", v >= w ? 2 * (v - w) : v, x.inn(v, w, 2));
            }
        }
    }

    /** Both set out if v is no less than w; one does if v is no more; both wait if v is nothing. */
    private static int rests(int v, int w) {
        return (v >= w ? 1 : 0) + (v <= w ? 2 : 0) + (v == 0 ? 1 : 0);
    }

    @Says(in = 0, words = "RESTS: neither would have more by the other thing.")
    static void asMuchByTheOtherThing(Check c) {
        int[][] inns = {{1, 1, 3, 0, 0}, {1, 0, 1, 0, 2}, {0, 1, 3, 1, 0}, {0, 0, 4, 0, 0}, {2, 1, 1, 0, 2}, {1, 2, 2, 1, 1}, {99, 99, 3, 0, 0}, {99, 98, 1, 0, 2}};
        RoadHolidays x = new RoadHolidays();
        for (int[] inn : inns) {
            for (int what = 0; what <= 2; what++) {
                c.due("inn " + inn[0] + " " + inn[1] + " " + what, inn[2 + what], x.inn(inn[0], inn[1], what));
            }
        }
    }

    @Says(in = 27, words = "above (half 0), below (half 1), in least terms; k above n: 0 by 1")
    static void luckInLeastTerms(Check c) {
        for (int n = 0; n <= 12; n++) {
            for (int k = 0; k <= 13; k++) {
                RoadHolidays x = new RoadHolidays();
                for (int q = 0; q <= 16; q++) {
                    BigInteger all = BigInteger.valueOf(16).pow(n);
                    BigInteger above = ways(n, k, q);
                    BigInteger common = above.gcd(all);
                    String told = n + " " + k + " " + q;
                    c.due("luck above " + told, above.divide(common).longValueExact(), x.luck(n, k, q, 0));
                    c.due("luck below " + told, all.divide(common).longValueExact(), x.luck(n, k, q, 1));
                }
            }
        }
    }

    private static BigInteger ways(int n, int k, int q) {
        BigInteger all = BigInteger.ZERO;
        for (int rest = k; rest <= n; rest++) {
            BigInteger chosen = BigInteger.ONE;
            for (int i = 0; i < rest; i++) {
                chosen = chosen.multiply(BigInteger.valueOf(n - i)).divide(BigInteger.valueOf(i + 1));
            }
            all = all.add(chosen.multiply(BigInteger.valueOf(q).pow(rest)).multiply(BigInteger.valueOf(16 - q).pow(n - rest)));
        }
        return all;
    }

    @Says(in = 0, words = "LUCK of n, k, q: each of n roads rests by q of 16, each by itself: how likely k or more do.")
    static void luckOfNoneAndOfAll(Check c) {
        long[][] lucks = {{0, 0, 0, 1, 1}, {0, 0, 16, 1, 1}, {0, 1, 16, 0, 1}, {12, 0, 0, 1, 1}, {12, 1, 0, 0, 1}, {12, 12, 16, 1, 1}, {12, 13, 16, 0, 1},
            {1, 1, 1, 1, 16}, {1, 1, 15, 15, 16}, {1, 1, 8, 1, 2}, {2, 1, 8, 3, 4}, {2, 2, 8, 1, 4}, {12, 12, 15, 129746337890625L, 281474976710656L},
            {12, 12, 8, 1, 4096}, {12, 1, 8, 4095, 4096}, {12, 12, 1, 1, 281474976710656L}};
        RoadHolidays x = new RoadHolidays();
        for (long[] l : lucks) {
            c.due("luck above " + l[0] + " " + l[1] + " " + l[2], l[3], x.luck((int) l[0], (int) l[1], (int) l[2], 0));
            c.due("luck below " + l[0] + " " + l[1] + " " + l[2], l[4], x.luck((int) l[0], (int) l[1], (int) l[2], 1));
        }
    }

    @Says(in = 0, words = "no more than a bound, the greatest by which no more than n are given (all, if they are no more)")
    static void theGreatestBound(Check c) {
        int[] loads = {10, 5, 0, 99, 5};
        String land = "town;" + "carter 0 10;carter 0 5;carter 0 0;carter 0 99;carter 0 5;";
        for (int set : new int[] {0, 1, 3, 4, 8, 18, 22, 24, 27, 31}) {
            for (int carter = 0; carter < loads.length; carter++) {
                oats(c, Made.with(land), loads, carter, set);
            }
        }
        // Whom WORK has loaded gets by what he is loaded with.
        RoadHolidays x = Made.with(land);
        Check.work(x, "load 3 2;load 2 1;");
        c.due("all of two", 2, x.oats(3, 12, 999));
        c.due("one of two", 1, x.oats(3, 12, 2));
        c.due("two of three", 2, x.oats(3, 12, 3));
    }

    private static void oats(Check c, RoadHolidays x, int[] loads, int carter, int set) {
        int bound = 0;
        for (int n = 0; n <= 240; n++) {
            while (bound < 200 && given(loads, set, bound + 1) <= n) {
                bound++;
            }
            int want = (set >> carter & 1) == 1 ? Math.min(loads[carter], bound) : 0;
            c.due("oats " + carter + " " + set + " " + n, want, x.oats(carter, set, n));
        }
        c.due("oats " + carter + " " + set + " 999", (set >> carter & 1) * loads[carter], x.oats(carter, set, 999));
    }

    private static int given(int[] loads, int set, int bound) {
        int all = 0;
        for (int i = 0; i < loads.length; i++) {
            all += (set >> i & 1) * Math.min(loads[i], bound);
        }
        return all;
    }

    @Says(in = 0, words = "levelled: no more than that each")
    static void noMoreThanHisLoad(Check c) {
        RoadHolidays x = Made.with("town;carter 0 0;carter 0 1;carter 0 99;");
        c.due("no load", 0, x.oats(0, 7, 999));
        c.due("a load of one", 1, x.oats(1, 7, 999));
        c.due("of 99", 99, x.oats(2, 7, 999));
        c.due("of 99, of just as many", 99, x.oats(2, 7, 100));
        c.due("of 99, of one less", 98, x.oats(2, 7, 99));
        c.due("of 99, by himself", 99, x.oats(2, 4, 99));
    }

    @Says(in = 28, words = "(0, if he is none of them)")
    static void noneOfThem(Check c) {
        RoadHolidays x = Made.with("town;" + "carter 0 9;".repeat(5));
        for (int carter = 0; carter < 5; carter++) {
            c.due("nobody gets any", 0, x.oats(carter, 0, 999));
            c.due("all others do", 0, x.oats(carter, 31 - (1 << carter), 999));
            c.due("he alone does", 9, x.oats(carter, 1 << carter, 999));
            c.due("all do", 9, x.oats(carter, 31, 45));
            c.due("one is missing", 8, x.oats(carter, 31, 44));
            c.due("none is given", 0, x.oats(carter, 31, 0));
            c.due("none each", 0, x.oats(carter, 31, 4));
            c.due("one each", 1, x.oats(carter, 31, 5));
        }
    }

    @Says(in = 28, words = "IllegalArgumentException: bits of no CARTERS.")
    static void bitsOfNoCarters(Check c) {
        for (int carters = 1; carters <= 5; carters++) {
            RoadHolidays x = Made.with("town;" + "carter 0 9;".repeat(carters));
            int all = (1 << carters) - 1;
            c.due("all", 9, x.oats(0, all, 999));
            c.wrongArgument("one more", () -> x.oats(0, all + 1, 999));
            c.wrongArgument("all and one more", () -> x.oats(0, 2 * all + 1, 999));
            c.wrongArgument("the highest", () -> x.oats(0, Integer.MIN_VALUE, 999));
            c.wrongArgument("all bits there are", () -> x.oats(0, -1, 999));
            c.wrongArgument("all but the sign", () -> x.oats(0, Integer.MAX_VALUE, 999));
            c.due("refused", 5, x.status(1));
        }
    }
}
