/** Hours and STEPS. */
final class HourBoundaries {
    /** Road 0: 0-1, 4 miles, rests on day 1; road 1: 1-2, 5 miles, rests on day 0; carters in towns 0 and 1. */
    private static final String LAND = "town;town;town;road 0 1 4 1;road 1 2 5 0;carter 0 10;carter 1 20;";

    private HourBoundaries() {
    }

    private static void hour(Check c, RoadHolidays x, int hour, int ofDay, int day, int week) {
        c.due("hour", hour, x.told(3));
        c.due("hour of the day at " + hour, ofDay, x.told(4));
        c.due("day of the week at " + hour, day, x.told(5));
        c.due("week at " + hour, week, x.told(6));
    }

    private static void carter(Check c, String when, RoadHolidays x, int carter, int... want) {
        for (int what = 0; what < want.length; what++) {
            c.due(when + ": carter(" + carter + ", " + what + ")", want[what], x.carter(carter, what));
        }
    }

    private static void does(Check c, RoadHolidays x, String work, int done, int refused) {
        c.due("'" + work + "' does", done, Check.work(x, work));
        c.due("'" + work + "' refuses", refused, x.told(10));
    }

    @Says(in = 0, words = "A day has 8 hours, a week 7 days, 56 hours.")
    static void daysAndWeeksBegin(Check c) {
        RoadHolidays x = Made.with(LAND);
        hour(c, x, 0, 0, 0, 0);
        does(c, x, "again 7[hour;];", 7, 0);
        hour(c, x, 7, 7, 0, 0);
        does(c, x, "hour;", 1, 0);
        hour(c, x, 8, 0, 1, 0);
        does(c, x, "again 47[hour;];", 47, 0);
        hour(c, x, 55, 7, 6, 0);
        does(c, x, "hour;", 1, 0);
        hour(c, x, 56, 0, 0, 1);
        does(c, x, "again 56[hour;];", 56, 0);
        hour(c, x, 112, 0, 0, 2);
        does(c, x, "again 55[hour;];", 55, 0);
        hour(c, x, 167, 7, 6, 2);
    }

    @Says(in = 0, words = "It is HOUR 0 at first (of day 0, of week 0); CARTERS are in their TOWNS, no ROAD is TIRED.")
    static void atFirst(Check c) {
        RoadHolidays x = new RoadHolidays();
        hour(c, x, 0, 0, 0, 0);
        for (int i = 0; i < 2; i++) {
            Check.land(x, LAND);
            hour(c, x, 0, 0, 0, 0);
            carter(c, "at first", x, 0, 0, -1, 0, 10, 0);
            carter(c, "at first", x, 1, 1, -1, 0, 20, 1);
            c.due("tired 0", 0, x.road(0, 4));
            c.due("tired 1", 0, x.road(1, 4));
            c.due("day off 0", 1, x.road(0, 3));
            c.due("day off 1", 0, x.road(1, 3));
            c.due("came", 0, x.told(11));
            // Whatever was, the next LAND begins anew.
            does(c, x, "set 0 0;load 0 3;off 1 5;set 1 1;hour;hour;set 0 0;hour;turn 0;again 60[hour;];", 69, 0);
        }
    }

    @Says(in = 0, words = "one that can't be done is REFUSED, and changes nothing")
    static void refusedStepsChangeNothing(Check c) {
        String work = "off 1 4;set 0 0;hour;";
        String[] refused = {"set 0 0;", "set 0 3;", "set 1 0;", "turn 1;", "load 0 10;", "load 1 5;", "off 0 0;", "off 1 4;"};
        for (String step : refused) {
            Sight.same(c, step, () -> Made.worked(work), x -> {
                x.undo();
                Check.work(x, work + step);
            }, "told(10)", 1);
        }
        // In their order: what the one changes decides on the next.
        RoadHolidays y = Made.with(LAND);
        does(c, y, "turn 0;set 0 0;turn 0;set 0 0;", 2, 2);
        does(c, y, "off 0 3;off 0 3;off 0 1;load 0 9;load 0 10;load 0 10;", 4, 2);
    }

    @Says(in = 0, words = "200 STEPS at most are begun by one WORK")
    static void twoHundredSteps(Check c) {
        // The again is the first of them: 1 and 180 and 19 are 200.
        String start = "again 60[hour;hour;hour;];";
        does(c, Made.with(LAND), start + "hour;".repeat(18), 198, 0);
        does(c, Made.with(LAND), start + "hour;".repeat(19), 199, 0);
        does(c, Made.with(LAND), start + "hour;".repeat(20), 199, 0);
        RoadHolidays x = Made.with(LAND);
        does(c, x, "again 60[hour;hour;hour;hour;];hour;", 199, 0);
        c.due("what would come behind is left out", 199, x.told(3));
        // Each WORK begins 200 of its own.
        does(c, x, "again 60[hour;hour;hour;hour;];", 199, 0);
        c.due("hours of two", 398, x.told(3));
    }

    @Says(in = 0, words = "(an again, too, each time it is come to; REFUSED ones, too)")
    static void whatIsBegun(Check c) {
        // 1 and 60 by 2, 1 and 60, 1: so 17 are left.
        String more = "again 60[hour;];again 60[hour;];";
        does(c, Made.with(LAND), "again 60[again 1[hour;];];" + more, 137, 0);
        does(c, Made.with(LAND), "again 60[again 0[hour;];again 5[];];" + more, 77, 0);
        does(c, Made.with(LAND), "again 60[turn 0;turn 1;turn 0;];" + "hour;".repeat(20), 19, 180);
        does(c, Made.with(LAND), "again 60[turn 0;turn 1;turn 0;];" + "hour;".repeat(19), 19, 180);
        does(c, Made.with(LAND), "again 60[turn 0;turn 1;turn 0;];" + "hour;".repeat(18), 18, 180);
        does(c, Made.with(LAND), "again 60[again 60[again 60[];];];hour;", 0, 0);
        does(c, Made.with(LAND), "again 60[again 60[];];hour;", 1, 0);
        does(c, Made.with(LAND), "again 0[again 60[hour;];];hour;", 1, 0);
        // Those left out are not REFUSED.
        does(c, Made.with(LAND), "again 60[turn 0;turn 0;turn 0;turn 0;];turn 0;", 0, 199);
    }

    @Says(in = 0, words = "what would come behind is left out.")
    static void leftOut(Check c) {
        String all = "again 60[hour;hour;hour;turn 0;];";
        for (String more : new String[] {"load 0 99;", "off 0 6;", "set 0 0;", "turn 0;", "again 1[load 0 99;];", "again 0[];"}) {
            // The again has 240 STEPS, so that nothing behind it is come to.
            Sight.same(c, "left out: " + more, () -> {
                RoadHolidays x = Made.with(LAND);
                does(c, x, all, 150, 49);
                return x;
            }, x -> {
                x.undo();
                does(c, x, all + more, 150, 49);
            });
        }
    }

    @Says(in = 0, words = "set: the CARTER is on ROAD R, with no mile gone, toward its other TOWN (REFUSED, if he is on a ROAD, or R does not go from his TOWN).")
    static void settingOut(Check c) {
        RoadHolidays x = Made.with(LAND);
        does(c, x, "set 0 1;", 0, 1);
        does(c, x, "set 1 1;set 0 0;", 2, 0);
        carter(c, "from A", x, 0, 1, 0, 0, 10, 0);
        carter(c, "from A too", x, 1, 2, 1, 0, 20, 1);
        does(c, x, "set 0 0;set 0 1;set 1 0;", 0, 3);
        does(c, x, "hour;hour;", 2, 0);
        carter(c, "there", x, 0, 1, -1, 0, 10, 0);
        does(c, x, "set 0 0;", 1, 0);
        carter(c, "from B", x, 0, 0, 0, 0, 10, 1);
        // He comes to TOWN 0, from which road 1 does not go.
        does(c, x, "hour;hour;set 0 1;", 2, 1);
        carter(c, "back", x, 0, 0, -1, 0, 10, 1);
    }

    @Says(in = 0, words = "turn: he goes back: of L he has gone what he had left, toward the other TOWN")
    static void turningOnTheWay(Check c) {
        RoadHolidays x = Made.with(LAND);
        Check.law(x, "1");
        does(c, x, "turn 0;", 0, 1);
        does(c, x, "set 0 0;hour;turn 0;", 3, 0);
        carter(c, "one of four gone", x, 0, 0, 0, 3, 10, 1);
        does(c, x, "turn 0;", 1, 0);
        carter(c, "turned twice", x, 0, 1, 0, 1, 10, 0);
        does(c, x, "hour;hour;turn 0;", 3, 0);
        carter(c, "three of four gone", x, 0, 0, 0, 1, 10, 1);
        does(c, x, "hour;hour;", 2, 0);
        c.due("a mile is left", 0, x.carter(0, 1));
        does(c, x, "hour;turn 0;", 1, 1);
        carter(c, "in the town from which he came", x, 0, 0, -1, 0, 10, 1);
    }

    @Says(in = 0, words = "(with no mile gone: L; he is there behind the next hour in which the ROAD goes)")
    static void turningWithNoMileGone(Check c) {
        RoadHolidays x = Made.with(LAND);
        does(c, x, "set 0 0;turn 0;", 2, 0);
        carter(c, "all gone, and still on it", x, 0, 0, 0, 4, 10, 1);
        c.due("not in the town", 0, x.town(0, 1));
        does(c, x, "turn 0;", 1, 0);
        carter(c, "and back", x, 0, 1, 0, 0, 10, 0);
        does(c, x, "turn 0;hour;", 2, 0);
        carter(c, "there", x, 0, 0, -1, 0, 10, 1);
        c.due("he came", 1, x.told(11));
        c.due("the road is tired", 1, x.road(0, 4));
        // Even if the PACE is 0.
        Check.law(x, "0");
        does(c, x, "set 0 0;turn 0;hour;", 3, 0);
        carter(c, "there by no pace", x, 0, 0, -1, 0, 10, 1);
        // But not on its DAY OFF.
        does(c, x, "set 0 0;turn 0;off 0 0;" + "hour;".repeat(6), 9, 0);
        hour(c, x, 8, 0, 1, 0);
        carter(c, "it rested", x, 0, 0, 0, 4, 10, 1);
        does(c, x, "hour;", 1, 0);
        carter(c, "it goes again", x, 0, 0, -1, 0, 10, 1);
    }

    @Says(in = 0, words = "(REFUSED, if he is in a TOWN)")
    static void turningInATown(Check c) {
        RoadHolidays x = Made.with(LAND);
        does(c, x, "turn 0;turn 1;", 0, 2);
        does(c, x, "set 0 0;turn 0;turn 1;", 2, 1);
        does(c, x, "hour;turn 0;", 1, 1);
        carter(c, "still in his town", x, 0, 0, -1, 0, 10, 1);
    }

    @Says(in = 0, words = "load: his load is N (REFUSED, if it is).")
    static void loading(Check c) {
        RoadHolidays x = Made.with(LAND);
        does(c, x, "load 0 10;", 0, 1);
        does(c, x, "load 0 0;load 0 0;load 0 99;load 0 99;load 1 20;", 2, 3);
        carter(c, "loaded", x, 0, 0, -1, 0, 99);
        does(c, x, "set 0 0;load 0 11;", 2, 0);
        carter(c, "on the road too", x, 0, 1, 0, 0, 11);
    }

    @Says(in = 0, words = "off: the DAY OFF of R is D from now on (REFUSED, if it is).")
    static void givingDaysOff(Check c) {
        RoadHolidays x = Made.with(LAND);
        does(c, x, "off 0 1;off 1 0;", 0, 2);
        does(c, x, "off 0 0;off 0 0;off 0 6;off 0 6;", 2, 2);
        c.due("its day off", 6, x.road(0, 3));
        c.due("the other one's", 0, x.road(1, 3));
        // From now on: also in the middle of a day.
        does(c, x, "set 0 0;hour;off 0 0;hour;", 4, 0);
        c.due("two miles by the first hour alone", 2, x.carter(0, 2));
        c.due("not tired any more", 0, x.road(0, 4));
    }

    @Says(in = 0, words = "hour (REFUSED from HOUR 5,600 on)")
    static void theLastHourThatCanBeReached(Check c) {
        // 16 WORKS of 199 hours come to 3,184, so that no hour is REFUSED.
        RoadHolidays x = Made.with(LAND);
        for (int i = 0; i < 16; i++) {
            does(c, x, "again 60[hour;hour;hour;hour;];", 199, 0);
        }
        hour(c, x, 3184, 0, 6, 56);
    }

    @Says(in = 0, words = "all asked as it is ahead of it")
    static void paceIsAskedAheadOfTheHour(Check c) {
        // Each of the three comes by the PACE of three, though the others come as well.
        RoadHolidays x = Made.with("town;town;road 0 1 9 6;carter 0 1;carter 1 2;carter 0 3;", "many+load+tired*3+hour");
        does(c, x, "set 0 0;set 1 0;set 2 0;", 3, 0);
        c.due("pace", 9, x.road(0, 6));
        does(c, x, "load 0 0;load 1 0;hour;", 3, 0);
        carter(c, "by 3 and 3", x, 0, 1, 0, 6, 0);
        carter(c, "by 3 and 3", x, 2, 1, 0, 6, 3);
        Check.law(x, "tired+hour+1");
        c.due("pace by one hour", 3, x.road(0, 6));
        does(c, x, "hour;", 1, 0);
        c.due("all three came", 3, x.told(11));
        c.due("tired", 2, x.road(0, 4));
        // The last hour of a day is of that day, with its LAW and its DAY OFF.
        RoadHolidays y = Made.with(LAND, "hour*day+1");
        does(c, y, "set 0 0;set 1 1;again 7[hour;];", 9, 0);
        carter(c, "came", y, 0, 1, -1, 0);
        carter(c, "rests", y, 1, 2, 1, 0);
        does(c, y, "set 0 0;hour;", 2, 0);
        carter(c, "a mile by hour 7 of day 0", y, 0, 0, 0, 1);
        carter(c, "rests until hour 7", y, 1, 2, 1, 0);
        does(c, y, "hour;", 1, 0);
        carter(c, "rests on day 1", y, 0, 0, 0, 1);
        carter(c, "a mile by hour 0 of day 1", y, 1, 2, 1, 1);
    }

    @Says(in = 0, words = "on its DAY OFF a ROAD goes nowhere, and is not TIRED any more (0)")
    static void theDayOff(Check c) {
        RoadHolidays x = Made.with(LAND);
        Check.law(x, "1-hour/7");
        does(c, x, "set 0 0;again 8[hour;set 0 0;];", 10, 7);
        c.due("tired by the day", 8, x.road(0, 4));
        carter(c, "three miles gone", x, 0, 0, 0, 3);
        c.due("rests now", 1, x.told(8));
        c.due("still tired", 8, x.road(0, 4));
        does(c, x, "hour;", 1, 0);
        c.due("not tired", 0, x.road(0, 4));
        does(c, x, "again 7[hour;];", 7, 0);
        c.due("not tired by who is on it", 0, x.road(0, 4));
        carter(c, "as many miles", x, 0, 0, 0, 3);
        does(c, x, "hour;", 1, 0);
        c.due("came", 2, x.told(11));
        c.due("tired anew", 1, x.road(0, 4));
    }

    @Says(in = 0, words = "(who has gone L or more is in the TOWN toward which he went)")
    static void comingToATown(Check c) {
        int[] paces = {1, 2, 3, 4, 5, 9};
        int[] hours = {4, 2, 2, 1, 1, 1};
        for (int i = 0; i < paces.length; i++) {
            RoadHolidays x = Made.with(LAND, "" + paces[i]);
            does(c, x, "set 0 0;again " + (hours[i] - 1) + "[hour;];", hours[i], 0);
            carter(c, "not there by " + paces[i], x, 0, 1, 0, paces[i] * (hours[i] - 1), 10, 0);
            does(c, x, "hour;", 1, 0);
            carter(c, "there by " + paces[i], x, 0, 1, -1, 0, 10, 0);
            c.due("in it by " + paces[i], 3, x.town(1, 1));
            c.due("came by " + paces[i], 1, x.told(11));
        }
    }

    @Says(in = 0, words = "and the ROAD is TIRED by 1 more, if any CARTER was on it")
    static void tiring(Check c) {
        RoadHolidays x = Made.with(LAND);
        does(c, x, "hour;", 1, 0);
        c.due("nobody on it", 0, x.road(0, 4));
        does(c, x, "set 0 0;set 1 0;hour;", 3, 0);
        c.due("two on it", 1, x.road(0, 4));
        c.due("nobody on the other one", 0, x.road(1, 4));
        does(c, x, "hour;", 1, 0);
        c.due("who came was on it", 2, x.road(0, 4));
        does(c, x, "hour;", 1, 0);
        c.due("nobody any more", 2, x.road(0, 4));
        Check.law(x, "0");
        does(c, x, "set 0 0;hour;", 2, 0);
        c.due("he went nowhere", 3, x.road(0, 4));
    }
}
