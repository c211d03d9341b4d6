/** YEARS by SEEDS. */
final class YearBoundaries {
    /** Carters in town 0, from which road 2 does not go; roads that rest on the days 6, 5, 4. */
    private static final String LAND = "town;town;town;road 0 1 40 6;road 0 2 40 5;road 1 2 40 4;carter 0 1;carter 0 2;carter 0 3;";
    private static final int[] SEEDS = {0, 1, 2, 3, 4, 5, 6, 7, 12345, -1, -2, 65535, 65536, Integer.MAX_VALUE, Integer.MIN_VALUE, Integer.MIN_VALUE + 1};

    private YearBoundaries() {
    }

    /** The document's DRAW, by the numbers that it says, without wrapping. */
    private static final class Draws {
        private long seed;

        Draws(int seed) {
            this.seed = seed & 0xffffffffL;
        }

        int by(int many) {
            seed = (seed * 1103515245L + 12345L) % 4294967296L;
            return (int) (seed / 65536 % 32768 % many);
        }
    }

    @Says(in = 0, words = "DRAW: the SEED (32 bits) becomes itself times 1,103,515,245, and 12,345 (it wraps); its bits 16 to 30, what is left of them.")
    static void drawnCartersAndRoads(Check c) {
        RoadHolidays x = Made.with(LAND);
        for (int i = 0; i < 150; i++) {
            int seed = i < SEEDS.length ? SEEDS[i] : i * 7919 * 7919 * 7919;
            Draws d = new Draws(seed);
            int carter = d.by(3);
            int road = d.by(3);
            c.due("on the way by seed " + seed, road == 2 ? 0 : 1 << carter, x.year(seed, 0, 1, 1));
            c.due("tired by seed " + seed, road == 2 ? 0 : 1, x.year(seed, 0, 1, 2));
        }
    }

    @Says(in = 0, words = "DRAW by 16: is it below Q: off of DRAW by how many ROADS, DRAW by 7 (each done, if it can be)")
    static void drawnDaysOff(Check c) {
        // Without CARTERS it is the first DRAW. Two roads of a kind rest on day 0, so each off but that to day 0 leaves five days.
        String land = "town;town;town;road 0 1 1 0;road 1 2 1 0;";
        for (int q : new int[] {0, 1, 8, 15, 16}) {
            RoadHolidays x = Made.with(land);
            for (int i = 0; i < 300; i++) {
                int seed = i < SEEDS.length ? SEEDS[i] : i * 7919 * 7919 * 7919;
                Draws d = new Draws(seed);
                boolean below = d.by(16) < q;
                d.by(2);
                boolean done = below && d.by(7) != 0;
                c.due("joined by seed " + seed + " and " + q, done ? 5 : 6, x.year(seed, q, 1, 3));
            }
        }
    }

    @Says(in = 32, words = "A YEAR of so many hours (1 to 96), Q (0 to 16)")
    static void wholeYears(Check c) {
        for (int q : new int[] {0, 1, 15, 16}) {
            for (int hours : new int[] {1, 2, 95, 96}) {
                RoadHolidays x = Made.with(LAND, "3");
                for (int seed : SEEDS) {
                    year(c, x, seed, q, hours);
                }
            }
        }
    }

    /** The same STEPS, done by WORKS of another object; 14 of them are enough. */
    private static void year(Check c, RoadHolidays x, int seed, int q, int hours) {
        RoadHolidays y = Made.with(LAND, "3");
        Draws d = new Draws(seed);
        StringBuilder steps = new StringBuilder();
        for (int i = 0; i < hours; i++) {
            steps.append("set ").append(d.by(3)).append(' ').append(d.by(3)).append(';');
            if (d.by(16) < q) {
                steps.append("off ").append(d.by(3)).append(' ').append(d.by(7)).append(';');
            }
            steps.append("hour;");
            if (steps.length() > 150 - "set 0 0;off 0 0;hour;".length() || i == hours - 1) {
                Check.work(y, steps.toString());
                steps.setLength(0);
            }
        }
        c.due("hours lived", hours, y.told(3));
        compare(c, x, y, seed, q, hours);
    }

    private static void compare(Check c, RoadHolidays x, RoadHolidays y, int seed, int q, int hours) {
        String told = "year " + seed + " " + q + " " + hours;
        int joined = 0;
        for (int day = 0; day <= 6; day++) {
            joined += y.joined(day) ? 1 : 0;
        }
        c.due(told + " came", y.told(11), x.year(seed, q, hours, 0));
        c.due(told + " on roads", y.told(7), x.year(seed, q, hours, 1));
        c.due(told + " tired", y.road(0, 4) + y.road(1, 4) + y.road(2, 4), x.year(seed, q, hours, 2));
        c.due(told + " joined", joined, x.year(seed, q, hours, 3));
    }

    @Says(in = 0, words = "are there CARTERS and ROADS: DRAW by how many CARTERS, C, by how many ROADS, R: set C R; are there ROADS:")
    static void yearsWithoutCartersOrRoads(Check c) {
        String[] lands = {"", "town;", "town;town;", "town;town;carter 0 5;carter 1 5;"};
        for (String land : lands) {
            RoadHolidays x = Made.with(land);
            for (int seed : SEEDS) {
                c.due("none comes", 0, x.year(seed, 16, 96, 0));
                c.due("none on roads", 0, x.year(seed, 16, 96, 1));
                c.due("none tired", 0, x.year(seed, 16, 96, 2));
                c.due("joined", land.length() < 6 ? 7 : 0, x.year(seed, 16, 96, 3));
            }
        }
        // With a carter alone in a town without roads the same is drawn, but he can't set out.
        RoadHolidays y = Made.with("town;town;town;road 0 1 1 3;carter 2 1;");
        c.due("none comes", 0, y.year(7, 0, 96, 0));
        c.due("none on roads", 0, y.year(7, 0, 96, 1));
    }

    @Says(in = 0, words = "then hour (beyond HOUR 5,600, too).")
    static void yearsFromTheLastHour(Check c) {
        // HOUR 3,184 is the last that WORKS come to; a YEAR goes on from it.
        RoadHolidays x = Made.with("town;town;road 0 1 1 6;carter 0 1;", "week/56");
        for (int i = 0; i < 16; i++) {
            Check.work(x, "again 60[hour;hour;hour;hour;];");
        }
        c.due("hour", 3184, x.told(3));
        c.due("rests on day 6", 0, x.year(1, 0, 8, 0));
        c.due("goes from hour 3,192 on", 48, x.year(1, 0, 56, 0));
        c.due("each hour but those of day 6", 80, x.year(1, 0, 96, 0));
    }

    @Says(in = 32, words = "0 how often a CARTER came to a TOWN in it, 1 CARTERS who are on ROADS then (bits), 2 how TIRED all ROADS are together then, 3 on how many days TOWNS are JOINED then.")
    static void whatWasAheadOfTheYear(Check c) {
        // Who came ahead of the YEAR doesn't count; who is on the way and what is TIRED does.
        RoadHolidays x = Made.with("town;town;road 0 1 4 6;road 0 1 40 6;carter 0 1;carter 1 1;");
        Check.work(x, "set 0 0;hour;hour;set 1 1;hour;");
        c.due("came by now", 1, x.told(11));
        for (int seed : SEEDS) {
            Draws d = new Draws(seed);
            boolean sets = d.by(2) == 0;
            boolean alone = d.by(2) == 0;
            c.due("none comes in an hour by seed " + seed, 0, x.year(seed, 0, 1, 0));
            c.due("on roads by seed " + seed, sets ? 3 : 2, x.year(seed, 0, 1, 1));
            c.due("tired by seed " + seed, sets && alone ? 5 : 4, x.year(seed, 0, 1, 2));
            c.due("joined by seed " + seed, 6, x.year(seed, 0, 1, 3));
        }
        c.due("nothing stays changed", 4, x.told(3) + x.told(11));
    }

    @Says(in = 33, words = "Of so many SEEDS (1 to 10; seed, seed and 1, ..)")
    static void seedsOfSpans(Check c) {
        RoadHolidays x = Made.with(LAND, "9");
        RoadHolidays y = Made.with(LAND, "9");
        for (int first : new int[] {0, -1, -5, Integer.MAX_VALUE, Integer.MAX_VALUE - 4}) {
            int fewest = 999;
            int most = 0;
            int in = 0;
            for (int many = 1; many <= 10; many++) {
                int seed = first + many - 1;
                int came = y.year(seed, 3, 40, 0);
                fewest = Math.min(fewest, came);
                most = Math.max(most, came);
                in += 1 - (y.year(seed, 3, 40, 1) >> 1 & 1);
                c.due("fewest of " + many + " from " + first, fewest, x.span(first, many, 3, 40, 0, 0));
                c.due("most of " + many + " from " + first, most, x.span(first, many, 3, 40, 1, 2));
                c.due("in a town of " + many + " from " + first, in, x.span(first, many, 3, 40, 2, 1));
            }
        }
    }

    @Says(in = 33, words = "0 the fewest times a CARTER came to a TOWN in it, 1 the most, 2 by how many a CARTER is in a TOWN then.")
    static void spansOfNoneAndOfAll(Check c) {
        RoadHolidays x = Made.with("town;town;town;road 0 1 1 6;carter 0 0;carter 2 0;carter 0 0;");
        Check.work(x, "set 2 0;hour;");
        c.due("fewest by pace 2", x.year(9, 0, 9, 0), x.span(9, 1, 0, 9, 0, 0));
        c.due("who can't set out is in his town", 10, x.span(1, 10, 0, 48, 2, 1));
        Check.law(x, "0");
        c.due("none comes at the least", 0, x.span(1, 10, 0, 96, 0, 1));
        c.due("none at the most", 0, x.span(1, 10, 0, 96, 1, 1));
        c.due("who sets out stays on the road", 0, x.span(1, 10, 0, 96, 2, 0));
        c.due("of one", 1, x.span(1, 1, 0, 1, 2, 1));
    }
}
