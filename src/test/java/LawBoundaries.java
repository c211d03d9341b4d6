/** What comes out of a LAW. */
final class LawBoundaries {
    private LawBoundaries() {
    }

    /** By length 12, tired 30, load 200, many 3, hour 7, day 5, week 80, road 11. */
    private static void gives(Check c, String law, int pace) {
        RoadHolidays x = new RoadHolidays();
        c.due("law '" + law + "'", 1, Check.law(x, law));
        c.due("pace by '" + law + "'", pace, x.would(12, 30, 200, 3, 7, 5, 80, 11));
    }

    @Says(in = 0, words = "without: 2")
    static void withoutLaw(Check c) {
        RoadHolidays x = new RoadHolidays();
        c.due("new", 2, x.would(1, 0, 0, 0, 0, 0, 0, 0));
        Check.land(x, Made.LAND);
        c.due("now", 2, x.road(1, 6));
        c.due("plain", 2, x.road(1, 7));
        Check.law(x, "7");
        c.due("with one", 7, x.road(1, 7));
        Check.law(x, "");
        c.due("a faulty one", 7, x.road(1, 7));
        Check.land(x, Made.LAND);
        c.due("without again", 2, x.road(1, 7));
        c.due("without again, asked", 2, x.would(40, 999, 495, 5, 7, 6, 100, 11));
    }

    @Says(in = 0, words = "what comes out, 0 at least, 9 at most")
    static void zeroToNine(Check c) {
        gives(c, "0", 0);
        gives(c, "0-1", 0);
        gives(c, "0-999*999", 0);
        gives(c, "1", 1);
        gives(c, "8", 8);
        gives(c, "9", 9);
        gives(c, "10", 9);
        gives(c, "999*999", 9);
        gives(c, "512*512*512*16-1", 9);
        gives(c, "512*512*512*16", 0);
        // Only what comes out is bounded, not what it is made of.
        gives(c, "999-990+(0-5)", 4);
    }

    @Says(in = 0, words = "E: T { + or - T }. T: U { * or / or % U }.")
    static void fromTheLeft(Check c) {
        gives(c, "9-4-3", 2);
        gives(c, "9-4+3", 8);
        gives(c, "8/4/2", 1);
        gives(c, "8/4*3", 6);
        gives(c, "7*3%4", 1);
        gives(c, "17%9%5", 3);
        gives(c, "2+3*2-1", 7);
        gives(c, "9-8/4", 7);
        gives(c, "9-(8-4)", 5);
        gives(c, "(2+1)*2", 6);
    }

    @Says(in = 0, words = "\"length\" (L), \"tired\" (how TIRED it is by now), \"load\" (of all CARTERS on it together by now)")
    static void eachWordIsItsOwn(Check c) {
        gives(c, "length-5", 7);
        gives(c, "tired-24", 6);
        gives(c, "load-195", 5);
        gives(c, "many", 3);
        gives(c, "hour", 7);
        gives(c, "day", 5);
        gives(c, "week-76", 4);
        gives(c, "road-9", 2);
    }

    @Says(in = 0, words = "\"many\" (how many CARTERS are on it by now)")
    static void nobodyAndAllOnARoad(Check c) {
        RoadHolidays x = Made.with(Made.FULL_LAND, "many+load/99");
        c.due("nobody", 0, x.road(11, 6));
        c.due("four set out", 4, Check.work(x, "set 0 11;set 1 11;set 2 11;set 3 11;"));
        c.due("four", 8, x.road(11, 6));
        c.due("none on another road", 0, x.road(10, 6));
        Check.work(x, "set 4 10;load 0 0;");
        c.due("four, one without load", 7, x.road(11, 6));
        c.due("one", 2, x.road(10, 6));
        RoadHolidays y = Made.with(Made.FULL_LAND, "load-490+many-5");
        Check.work(y, "set 0 1;set 1 1;set 2 1;set 3 1;set 4 1;");
        c.due("five by 99", 5, y.road(1, 6));
    }

    @Says(in = 0, words = "\"hour\" (of the day, 0 to 7), \"day\" (of the week, 0 to 6), \"week\" (0 on), \"road\" (its number)")
    static void hoursDaysAndWeeksOfPaceNow(Check c) {
        RoadHolidays x = Made.with(Made.LAND);
        int[][] passed = {{0, 0, 0, 0}, {7, 7, 0, 0}, {1, 0, 1, 0}, {39, 7, 5, 0}, {1, 0, 6, 0}, {7, 7, 6, 0}, {1, 0, 0, 1}, {8, 0, 1, 1}, {48, 0, 0, 2}};
        for (int[] p : passed) {
            Check.work(x, "again " + p[0] + "[hour;];");
            String at = " at hour " + x.told(3);
            // Road 2 rests on day 3 alone.
            Check.law(x, "hour");
            c.due("hour" + at, p[1], x.road(2, 6));
            Check.law(x, "day");
            c.due("day" + at, p[2], x.road(2, 6));
            Check.law(x, "week");
            c.due("week" + at, p[3], x.road(2, 6));
        }
        Check.law(x, "road");
        for (int r = 0; r < 4; r++) {
            c.due("plain road " + r, r, x.road(r, 7));
        }
    }

    @Says(in = 0, words = "PACE of a ROAD: what comes out")
    static void eachRoadByItsOwnValues(Check c) {
        RoadHolidays x = Made.with("town;town;road 0 1 1 6;road 0 1 9 6;road 0 1 40 6;carter 0 0;carter 1 0;");
        int[] lengths = {1, 9, 9};
        for (int r = 0; r < 3; r++) {
            Check.law(x, "length");
            // What was asked of others ahead of it leaves nothing.
            x.would(5, 0, 0, 0, 0, 0, 0, 5);
            c.due("length of road " + r, lengths[r], x.road(r, 6));
            x.would(5, 0, 0, 0, 0, 0, 0, 5);
            c.due("plain length of road " + r, lengths[r], x.road(r, 7));
            Check.law(x, "road*2");
            x.would(5, 9, 9, 5, 5, 5, 5, 5);
            c.due("number of road " + r, 2 * r, x.road(r, 6));
            x.would(5, 9, 9, 5, 5, 5, 5, 5);
            c.due("plain number of road " + r, 2 * r, x.road(r, 7));
        }
        // The same in an hour that passes on two of them.
        Check.work(x, "set 0 1;set 1 2;hour;");
        c.due("by road 1", 2, x.carter(0, 2));
        c.due("by road 2", 4, x.carter(1, 2));
        Check.law(x, "(length+2)/7");
        Check.work(x, "hour;");
        c.due("by length 9", 2 + 1, x.carter(0, 2));
        c.due("by length 40", 4 + 6, x.carter(1, 2));
    }

    @Says(in = 0, words = "Values are whole numbers of 32 bits that wrap")
    static void valuesWrap(Check c) {
        gives(c, "512*512*512*16-1", 9);
        gives(c, "512*512*512*16", 0);
        gives(c, "512*512*512*32+3", 3);
        gives(c, "0-512*512*512*16-1", 9);
        gives(c, "(512*512*512*16-1)+(512*512*512*16-1)+4", 2);
        gives(c, "(0-512*512*512*16)/512/512/512/4+9", 5);
        gives(c, "(512*512*512*16-1)*(512*512*512*16-1)+6", 7);
        // The least value divided by -1 wraps to itself, and leaves 0.
        gives(c, "512*512*512*16/(0-1)", 0);
        gives(c, "512*512*512*16/(0-1)-1", 9);
        gives(c, "512*512*512*16%(0-1)+6", 6);
    }

    @Says(in = 0, words = "/ cuts, % leaves (with the sign of what is divided)")
    static void dividing(Check c) {
        gives(c, "7/2", 3);
        gives(c, "(0-7)/2+9", 6);
        gives(c, "7/(0-2)+9", 6);
        gives(c, "(0-7)/(0-2)", 3);
        gives(c, "6/7+1", 1);
        gives(c, "(0-6)/7+1", 1);
        gives(c, "7%3", 1);
        gives(c, "(0-7)%3+5", 4);
        gives(c, "7%(0-3)+5", 6);
        gives(c, "(0-7)%(0-3)+5", 4);
        gives(c, "6%3+2", 2);
    }

    @Says(in = 0, words = "by 0 both are 0")
    static void dividingByZero(Check c) {
        gives(c, "5+7/0", 5);
        gives(c, "5+7%0", 5);
        gives(c, "5+0/0", 5);
        gives(c, "5+0%0", 5);
        gives(c, "5+7/(many-3)", 5);
        gives(c, "5+7%(many-3)", 5);
        gives(c, "5+7/(many-2)", 9);
        gives(c, "5-(0-7)/0", 5);
    }

    @Says(in = 0, words = "\"least\" \"[\" E \",\" E \"]\", \"most\" \"[\" E \",\" E \"]\"")
    static void leastAndMost(Check c) {
        gives(c, "least[3,5]", 3);
        gives(c, "least[5,3]", 3);
        gives(c, "least[4,4]", 4);
        gives(c, "most[3,5]", 5);
        gives(c, "most[5,3]", 5);
        gives(c, "most[4,4]", 4);
        gives(c, "least[0-3,0]+5", 2);
        gives(c, "most[0-3,0-4]+5", 2);
        gives(c, "least[1+2,2*2]*most[1,2]", 6);
        gives(c, "least[512*512*512*16,1]+1", 0);
        gives(c, "9-least[most[least[most[least[most[5,1],9],2],3],9],1]", 8);
    }
}
