/** Ways, days on which towns are joined, and the book. */
final class AskedBoundaries {
    private static final String TWO = "town;town;";

    private AskedBoundaries() {
    }

    private static RoadHolidays at(String land, int hour) {
        RoadHolidays x = Made.with(land);
        Check.work(x, "again " + hour / 4 + "[hour;hour;hour;hour;];again " + hour % 4 + "[hour;];");
        return x;
    }

    // ---- TAKEN, SOON and its ROADS

    @Says(in = 0, words = "PLAIN PACE of a ROAD is PACE with \"tired\", \"load\", \"many\", \"hour\", \"day\", \"week\" 0, 0 on its DAY OFF")
    static void plainPaceKnowsOnlyLengthAndRoad(Check c) {
        RoadHolidays x = Made.with(TWO + "road 0 1 40 6;road 0 1 40 6;carter 0 9;", "1+tired+load+many+hour+day+week+road");
        for (int i = 0; i < 2; i++) {
            c.due("plain 0", 1, x.road(0, 7));
            c.due("plain 1", 2, x.road(1, 7));
            c.due("taken 0", 40, x.lasts(0, 0));
            c.due("taken 1", 20, x.lasts(1, 8));
            c.due("soon", 20, x.soon(0, 1, 0));
            Check.work(x, "set 0 1;hour;turn 0;again 60[hour;];");
        }
        Check.law(x, "length-32");
        c.due("length counts", 8, x.road(0, 7));
        // On its DAY OFF too, the plain one of other days is told, and the one of now is 0.
        Check.work(x, "off 0 " + x.told(5) + ";");
        c.due("now", 0, x.road(0, 6));
        c.due("on other days", 8, x.road(0, 7));
    }

    @Says(in = 0, words = "and nobody else is on any ROAD")
    static void cartersOnTheWayMatterNot(Check c) {
        String law = "2+many*3+load+tired";
        RoadHolidays x = Made.with(Made.LAND, law);
        RoadHolidays y = Made.with(Made.LAND, law);
        Check.work(x, "hour;");
        Check.work(y, "set 0 2;set 1 1;hour;load 1 0;");
        c.due("one is on a ROAD, one came", 1, y.told(7));
        for (int r = 0; r < 4; r++) {
            c.due("plain " + r, x.road(r, 7), y.road(r, 7));
            c.due("lasts " + r, x.lasts(r, 1), y.lasts(r, 1));
            c.due("fits " + r, x.fits(r), y.fits(r));
            c.due("look " + r, x.look(r, 0), y.look(r, 0));
            for (int t = 0; t < 4; t++) {
                c.due("soon " + r + " " + t, x.soon(r, t, 1), y.soon(r, t, 1));
                c.due("way " + r + " " + t, x.way(r, t, 1, 2), y.way(r, t, 1, 2));
                c.due("latest " + r + " " + t, x.latest(r, t, 1, 30), y.latest(r, t, 1, 30));
                c.due("day " + r + " " + t, x.day(r, t, 1), y.day(r, t, 1));
            }
            c.due("reach " + r, x.reach(r, 9), y.reach(r, 9));
        }
        c.due("farthest", x.farthest(2), y.farthest(2));
    }

    @Says(in = 0, words = "A ROAD is TAKEN from HOUR h on: hour by hour PLAIN PACE is gone, until it is L or more.")
    static void takenUntilItIsTheLength(Check c) {
        int[] lengths = {1, 2, 3, 5, 6, 7, 39, 40};
        int[] hours = {1, 1, 1, 2, 2, 3, 13, 14};
        for (int i = 0; i < lengths.length; i++) {
            RoadHolidays x = Made.with(TWO + "road 0 1 " + lengths[i] + " 6;", "3");
            c.due("by 3 " + lengths[i] + " miles", hours[i], x.lasts(0, 0));
        }
        RoadHolidays x = Made.with(TWO + "road 0 1 6 2;");
        c.due("ends with the day", 3, x.lasts(0, 13));
        c.due("an hour is left behind the day off", 11, x.lasts(0, 14));
        c.due("two hours are", 11, x.lasts(0, 15));
        c.due("begins on the day off", 11, x.lasts(0, 16));
        c.due("begins in its last hour", 4, x.lasts(0, 23));
        c.due("begins behind it", 3, x.lasts(0, 24));
        c.due("the same a week later", 11, x.lasts(0, 14 + 56));
        RoadHolidays y = Made.with(TWO + "road 0 1 6 0;");
        c.due("over the end of the week", 11, y.lasts(0, 54));
        c.due("at the end of the week", 3, y.lasts(0, 53));
    }

    @Says(in = 14, words = "NONE: more than 999")
    static void roadsThatNeverEnd(Check c) {
        RoadHolidays x = Made.with(TWO + "road 0 1 40 0;", "1");
        c.due("rests first", 48, x.lasts(0, 0));
        c.due("goes at once", 40, x.lasts(0, 9));
        c.due("rests ahead of the last mile", 48, x.lasts(0, 17));
        c.due("from the last hour", 48, x.lasts(0, 5600));
        Check.law(x, "0");
        c.due("no pace", -1, x.lasts(0, 0));
        Check.law(x, "0-9");
        c.due("less than none", -1, x.lasts(0, 5600));
    }

    @Says(in = 0, words = "the least number of hours (0 to 999) behind which one who is in A at HOUR h can be in B, who may wait, taking ROADS one behind the other; NONE")
    static void soonOfTowns(Check c) {
        RoadHolidays x = Made.with("town;town;town;town;road 0 1 2 0;road 1 2 2 6;road 0 2 40 6;");
        for (int t = 0; t < 4; t++) {
            c.due("itself", 0, x.soon(t, t, 0));
            c.due("itself at last", 0, x.soon(t, t, 5600));
            c.due("without roads", t == 3 ? 0 : -1, x.soon(t, 3, 0));
            c.due("from there", t == 3 ? 0 : -1, x.soon(3, t, 0));
        }
        c.due("waits for a day, or goes the long one", 10, x.soon(0, 2, 0));
        c.due("goes at once", 2, x.soon(0, 2, 8));
        c.due("the last hour of day 5", 1 + 8 + 1, x.soon(0, 2, 47));
        c.due("two hours ahead of day 6", 2, x.soon(0, 2, 46));
        Check.law(x, "0");
        c.due("no road goes", -1, x.soon(0, 2, 8));
        c.due("but itself", 0, x.soon(2, 2, 8));
    }

    @Says(in = 0, words = "Its ROADS: the last one is that ROAD (of alike ones the least) by which one who is at its other TOWN as soon as can be is in B as soon; those ahead of it likewise.")
    static void ofAlikeRoadsTheLeast(Check c) {
        RoadHolidays x = Made.with("town;town;town;town;road 1 3 2 6;road 2 3 2 6;road 0 2 2 6;road 0 1 2 6;road 0 1 2 6;road 0 3 4 6;");
        c.due("many", 2, x.way(0, 3, 0, 0));
        c.due("last of three alike", 0, x.way(0, 3, 0, 2));
        c.due("ahead of it the least too", 3, x.way(0, 3, 0, 1));
        c.due("back", 2, x.way(3, 0, 0, 0));
        c.due("the least into town 0", 2, x.way(3, 0, 0, 2));
        c.due("ahead of it", 1, x.way(3, 0, 0, 1));
        RoadHolidays y = Made.with("town;town;town;road 0 2 4 6;road 0 1 2 6;road 1 2 2 6;");
        c.due("the one road is the least", 1, y.way(0, 2, 0, 0));
        c.due("it is first", 0, y.way(0, 2, 0, 1));
        c.due("and last", 0, y.way(0, 2, 0, 2));
        // Who is at the other TOWN sooner waits there: it is the hour of coming that counts.
        RoadHolidays z = Made.with("town;town;town;road 1 2 2 0;road 0 1 2 6;road 0 1 16 6;road 0 2 18 6;");
        c.due("first", 1, z.way(0, 2, 0, 1));
        c.due("last", 0, z.way(0, 2, 0, 2));
        c.due("soon by all", 9, z.soon(0, 2, 0));
    }

    @Says(in = 16, words = "How many ROADS SOON takes (what 0; NONE: no way); the first of these (1; NONE: none), the last (2; NONE)")
    static void noRoadsAtAll(Check c) {
        RoadHolidays x = Made.with(TWO + "town;road 0 1 2 6;");
        c.due("itself many", 0, x.way(1, 1, 0, 0));
        c.due("itself first", -1, x.way(1, 1, 0, 1));
        c.due("itself last", -1, x.way(1, 1, 0, 2));
        for (int what = 0; what <= 2; what++) {
            c.due("no way " + what, -1, x.way(0, 2, 0, what));
        }
        c.due("one road", 1, x.way(0, 1, 0, 0));
        c.due("is the first", 0, x.way(0, 1, 0, 1));
        c.due("is the last", 0, x.way(0, 1, 0, 2));
        // Six roads are the most.
        RoadHolidays y = Made.with("town;".repeat(7) + "road 5 6 1 0;road 4 5 1 0;road 3 4 1 0;road 2 3 1 0;road 1 2 1 0;road 0 1 1 0;");
        c.due("six", 6, y.way(0, 6, 8, 0));
        c.due("first of six", 5, y.way(0, 6, 8, 1));
        c.due("last of six", 0, y.way(0, 6, 8, 2));
        c.due("six hours", 6, y.soon(0, 6, 8));
    }

    @Says(in = 0, words = "LATEST of A, B, h, n: the greatest number of hours one can wait in A from HOUR h on, and be in B within n hours from h on; NONE.")
    static void latestHours(Check c) {
        RoadHolidays x = Made.with(TWO + "town;road 0 1 6 1;");
        c.due("just", 0, x.latest(0, 1, 0, 3));
        c.due("not within", -1, x.latest(0, 1, 0, 2));
        c.due("an hour's wait", 1, x.latest(0, 1, 0, 4));
        c.due("till the day off", 5, x.latest(0, 1, 0, 8));
        c.due("on the day off", 5, x.latest(0, 1, 0, 16));
        c.due("behind it by one hour", 6, x.latest(0, 1, 0, 17));
        c.due("by two hours", 7, x.latest(0, 1, 0, 18));
        c.due("waits for all of it", 16, x.latest(0, 1, 0, 19));
        c.due("the greatest", 197, x.latest(0, 1, 0, 200));
        c.due("from the last hour", 197, x.latest(0, 1, 5600, 200));
        c.due("no hours", -1, x.latest(0, 1, 0, 0));
        c.due("no hours to itself", 0, x.latest(0, 0, 0, 0));
        c.due("all hours to itself", 200, x.latest(2, 2, 5600, 200));
        c.due("no way", -1, x.latest(0, 2, 0, 200));
    }

    @Says(in = 0, words = "of the next seven mornings (HOURS whose hour of the day is 0, this one, too, if it is one)")
    static void theNextSevenMornings(Check c) {
        String day5 = TWO + "road 0 1 16 5;";
        int[] hours = {0, 1, 7, 8, 9, 32, 33, 39, 40, 41, 48, 49, 55};
        int[] days = {0, 1, 1, 1, 2, 4, 6, 6, 6, 6, 6, 0, 0};
        for (int i = 0; i < hours.length; i++) {
            c.due("first morning from hour " + hours[i] + " but that of day 5", days[i], at(day5, hours[i]).day(0, 1, 0));
            c.due("its hours", 8, at(day5, hours[i]).day(0, 1, 1));
        }
        // Six roads of a day each: only from day 0 none of them rests just when it is come to.
        String chain = "town;".repeat(7) + "road 0 1 16 1;road 1 2 16 3;road 2 3 16 5;road 3 4 16 0;road 4 5 16 2;road 5 6 16 4;";
        for (int hour : new int[] {0, 1, 7, 8, 48, 49, 56, 57}) {
            c.due("the seventh counts, too, at hour " + hour, 0, at(chain, hour).day(0, 6, 0));
            c.due("its hours", 48, at(chain, hour).day(0, 6, 1));
        }
    }

    @Says(in = 0, words = "that one from which SOON is least; of alike ones the first; as a day of the week; NONE.")
    static void noBestDay(Check c) {
        String land = "town;town;town;road 0 1 40 1;";
        for (int hour : new int[] {0, 5, 48, 50}) {
            RoadHolidays x = at(land, hour);
            int next = (hour + 7) / 8 % 7;
            c.due("itself is in time from the next morning on", next, x.day(2, 2, 0));
            c.due("itself takes no hours", 0, x.day(2, 2, 1));
            c.due("no way, no day", -1, x.day(0, 2, 0));
            c.due("no way, no hours", -1, x.day(0, 2, 1));
        }
    }

    @Says(in = 18, words = "BEST DAY of two TOWNS: 0 which, 1 SOON from then; NONE both.")
    static void noBestDayByNoPace(Check c) {
        RoadHolidays x = Made.with(TWO + "road 0 1 1 0;", "0");
        c.due("no day", -1, x.day(0, 1, 0));
        c.due("no hours", -1, x.day(0, 1, 1));
        Check.law(x, "1");
        c.due("day", 1, x.day(0, 1, 0));
        c.due("hours", 1, x.day(0, 1, 1));
    }

    @Says(in = 19, words = "NONE all: there are no other ones")
    static void farthestOfNone(Check c) {
        for (String land : new String[] {"", "town;", TWO, "town;".repeat(7)}) {
            for (int what = 0; what <= 2; what++) {
                c.due("farthest of '" + land + "'", -1, Made.with(land).farthest(what));
            }
        }
    }

    @Says(in = 19, words = "Of all twos of unlike TOWNS (from A to B, and from B to A) that with greatest SOON from the HOUR it is, those with NONE left out: 0 A, 1 B, of alike ones the first (by A, then B)")
    static void farthestOfAlikeOnes(Check c) {
        RoadHolidays x = Made.with("town;town;town;town;road 2 3 4 6;road 1 2 4 6;");
        int[] want = {1, 3, 4};
        for (int what = 0; what <= 2; what++) {
            c.due("alike both ways, town 0 left out: " + what, want[what], x.farthest(what));
        }
        RoadHolidays y = Made.with("town;".repeat(7) + "road 6 5 1 6;road 5 6 1 6;");
        c.due("from the last but one", 5, y.farthest(0));
        c.due("to the last", 6, y.farthest(1));
        c.due("one hour", 1, y.farthest(2));
        // From HOUR 6 on it matters which road is first.
        RoadHolidays z = at("town;town;town;road 0 1 4 6;road 1 2 4 1;", 6);
        c.due("from 0", 0, z.farthest(0));
        c.due("to 2", 2, z.farthest(1));
        c.due("over the day off", 12, z.farthest(2));
        RoadHolidays w = at("town;town;town;road 0 1 4 1;road 1 2 4 6;", 6);
        c.due("from 2", 2, w.farthest(0));
        c.due("to 0", 0, w.farthest(1));
    }

    @Says(in = 31, words = "within n hours (0 to 200) from the HOUR it is (itself, too)")
    static void reachWithin(Check c) {
        RoadHolidays x = Made.with("town;town;town;road 0 1 6 6;");
        c.due("no hours", 1, x.reach(0, 0));
        c.due("one too few", 1, x.reach(0, 2));
        c.due("just", 3, x.reach(0, 3));
        c.due("never to town 2", 3, x.reach(0, 200));
        c.due("town 2 itself", 4, x.reach(2, 200));
        RoadHolidays y = at("town;town;town;road 0 1 6 6;", 46);
        c.due("by now the road rests", 1, y.reach(0, 10));
        c.due("it goes then", 3, y.reach(0, 11));
    }

    // ---- JOINED, PART, MEND, PICNIC

    @Says(in = 0, words = "JOINED on a day: from each TOWN one comes to each other one by ROADS that do not have this DAY OFF, whatever their PACE.")
    static void joinedDays(Check c) {
        for (int day = 0; day <= 6; day++) {
            c.due("no towns", 1, Made.with("").joined(day) ? 1 : 0);
            c.due("one town", 1, Made.with("town;").joined(day) ? 1 : 0);
            c.due("two without roads", 0, Made.with(TWO).joined(day) ? 1 : 0);
            RoadHolidays x = Made.with("town;town;town;road 1 2 40 3;road 0 1 40 6;", "0");
            c.due("day " + day, day == 3 || day == 6 ? 0 : 1, x.joined(day) ? 1 : 0);
        }
        // A chain told from its far end, and the first town alone.
        String chain = "town;".repeat(7) + "road 5 6 1 0;road 4 5 1 0;road 3 4 1 0;road 2 3 1 0;road 1 2 1 0;";
        c.due("chain", 1, Made.with(chain + "road 0 1 1 0;").joined(1) ? 1 : 0);
        c.due("without town 0", 0, Made.with(chain).joined(1) ? 1 : 0);
    }

    @Says(in = 0, words = "PART of A, B and a day: the fewest ROADS that go on this day and would have to rest as well so that A and B were not joined by those that go; 0: they are not; NONE: A is B.")
    static void partOfTowns(Check c) {
        RoadHolidays x = Made.with("town;town;town;road 0 1 1 0;road 0 1 1 0;road 1 0 1 1;");
        c.due("itself", -1, x.part(0, 0, 0));
        c.due("the last one itself", -1, x.part(2, 2, 6));
        c.due("not joined", 0, x.part(0, 2, 3));
        c.due("all three go", 3, x.part(0, 1, 3));
        c.due("two rest", 1, x.part(0, 1, 0));
        c.due("one rests", 2, x.part(1, 0, 1));
        RoadHolidays y = Made.with(TWO + "road 0 1 1 0;".repeat(12));
        c.due("all twelve", 12, y.part(0, 1, 1));
        c.due("all rest", 0, y.part(0, 1, 0));
        RoadHolidays z = Made.with("town;".repeat(7) + "road 0 1 1 0;road 0 2 1 0;road 0 3 1 0;road 1 4 1 0;road 2 4 1 0;road 3 5 1 0;road 4 6 1 0;road 5 6 1 0;");
        c.due("the narrow place lies in the middle", 2, z.part(0, 6, 1));
    }

    @Says(in = 0, words = "MEND: of all changes of the DAY OFF of one ROAD that by which TOWNS are JOINED on most days; of alike ones the first (by ROADS, then days), but none by which that is not more than now: NONE.")
    static void mendOfRoads(Check c) {
        for (String land : new String[] {"", "town;", TWO, TWO + "road 0 1 1 0;", TWO + "road 0 1 1 0;road 0 1 1 1;",
            "town;town;town;road 0 1 1 5;road 1 2 1 5;road 0 2 1 5;"}) {
            for (int what = 0; what <= 2; what++) {
                c.due("none for '" + land + "'", -1, Made.with(land).mend(what));
            }
        }
        mends(c, TWO + "road 0 1 1 0;road 0 1 1 0;", 0, 1, 7);
        mends(c, TWO + "road 0 1 1 6;road 0 1 1 6;", 0, 0, 7);
        mends(c, "town;town;town;road 0 1 1 0;road 1 2 1 6;", 0, 6, 6);
        // The last road alone, by the last day alone.
        mends(c, "town;town;town;town;road 0 1 1 6;road 1 2 1 6;road 2 3 1 0;", 2, 6, 6);
    }

    private static void mends(Check c, String land, int road, int day, int days) {
        RoadHolidays x = Made.with(land);
        c.due("road for '" + land + "'", road, x.mend(0));
        c.due("day for '" + land + "'", day, x.mend(1));
        c.due("days for '" + land + "'", days, x.mend(2));
    }

    @Says(in = 0, words = "PICNIC of a day: the most ROADS that rest on it of which no two have a TOWN in common.")
    static void picnics(Check c) {
        c.due("no roads", 0, Made.with("town;").picnic(0));
        RoadHolidays x = Made.with("town;".repeat(7) + "road 0 1 1 0;road 2 3 1 0;road 4 5 1 0;road 5 6 1 0;road 0 1 1 6;road 1 0 1 6;");
        c.due("three of seven towns", 3, x.picnic(0));
        c.due("none", 0, x.picnic(1));
        c.due("twins", 1, x.picnic(6));
        c.due("twelve alike", 1, Made.with(TWO + "road 0 1 1 3;".repeat(12)).picnic(3));
        RoadHolidays y = Made.with("town;town;town;town;road 1 2 1 0;road 0 1 1 0;road 2 3 1 0;");
        c.due("by leaving the first", 2, y.picnic(0));
    }

    // ---- FITS and LOOK

    @Says(in = 0, words = "FITS by BOOK of a ROAD: days (bits) by which, were it its DAY OFF, all lines were right")
    static void fitsOfNoLinesAndOfSix(Check c) {
        RoadHolidays x = Made.with(TWO + "road 0 1 40 0;");
        c.due("no BOOK", 127, x.fits(0));
        Check.book(x, "");
        c.due("no lines", 127, x.fits(0));
        Check.book(x, "0 0;");
        c.due("day 0", 1, x.fits(0));
        Check.book(x, "48 0;");
        c.due("day 6", 64, x.fits(0));
        Check.book(x, "0 16;8 16;16 16;24 16;32 16;40 16;");
        c.due("six lines leave day 6", 64, x.fits(0));
        Check.book(x, "0 16;8 16;16 16;24 16;32 16;48 16;");
        c.due("six lines leave day 5", 32, x.fits(0));
        Check.book(x, "0 16;8 16;16 16;24 16;32 16;40 15;");
        c.due("the last line is wrong", 0, x.fits(0));
        // What it is now matters not.
        Check.book(x, "0 0;");
        Check.work(x, "off 0 5;");
        c.due("day 0 all the same", 1, x.fits(0));
    }

    @Says(in = 0, words = "who set out at HOUR H of the week goes at PLAIN PACE eight hours (0 in those of its DAY OFF), and L at most")
    static void milesOfADay(Check c) {
        RoadHolidays x = Made.with(TWO + "road 0 1 40 0;road 0 1 16 0;road 0 1 15 0;");
        fits(c, x, "0 16;", 126, 126, 0);
        fits(c, x, "0 15;", 0, 0, 126);
        fits(c, x, "0 17;", 0, 0, 0);
        fits(c, x, "0 99;", 0, 0, 0);
        // Seven hours on the one day, one on the next.
        fits(c, x, "1 14;", 2, 2, 2);
        fits(c, x, "1 2;", 1, 1, 1);
        fits(c, x, "1 16;", 124, 124, 0);
        // Over the end of the week.
        fits(c, x, "55 2;", 1, 1, 1);
        fits(c, x, "55 14;", 64, 64, 64);
        fits(c, x, "49 14;", 1, 1, 1);
        fits(c, x, "48 0;", 64, 64, 64);
        Check.law(x, "9");
        fits(c, x, "0 40;", 126, 0, 0);
        fits(c, x, "52 36;", 65, 0, 0);
        fits(c, x, "52 16;", 0, 127, 0);
        Check.law(x, "0");
        fits(c, x, "0 0;55 0;", 127, 127, 127);
        fits(c, x, "0 1;", 0, 0, 0);
    }

    private static void fits(Check c, RoadHolidays x, String book, int... days) {
        Check.book(x, book);
        for (int r = 0; r < days.length; r++) {
            c.due("fits(" + r + ") by '" + book + "'", days[r], x.fits(r));
        }
    }

    @Says(in = 0, words = "LOOK of a ROAD: the HOUR of the week in no line by which, whatever miles were gone a day later, fewest of FITS are left at the worst; of these the first; NONE: nothing FITS.")
    static void lookOfRoads(Check c) {
        RoadHolidays x = Made.with(TWO + "road 0 1 40 0;road 0 1 1 0;");
        looks(c, x, "", 0, 1, 5);
        // By a mile at most only a whole day tells: all hours but the first ones leave as many.
        looks(c, x, "", 1, 0, 6);
        looks(c, x, "8 16;", 0, 1 + 16, 4);
        // Hours in lines are left out, also the first ones.
        looks(c, x, "0 16;1 16;2 16;3 16;5 16;6 16;", 0, 17, 3);
        looks(c, x, "0 0;", 0, 1, 1);
        looks(c, x, "1 2;", 0, 0, 1);
        looks(c, x, "0 99;", 0, -1, -1);
        Check.law(x, "0");
        looks(c, x, "", 0, 0, 7);
        looks(c, x, "0 0;1 0;2 0;3 0;4 0;5 0;", 0, 6, 7);
        looks(c, x, "0 1;", 0, -1, -1);
    }

    private static void looks(Check c, RoadHolidays x, String book, int road, int hour, int left) {
        Check.book(x, book);
        c.due("look(" + road + ", 0) by '" + book + "'", hour, x.look(road, 0));
        c.due("look(" + road + ", 1) by '" + book + "'", left, x.look(road, 1));
    }
}
