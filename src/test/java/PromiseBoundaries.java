/** The boundary cases of the promises that change something, and of what is told. */
final class PromiseBoundaries {
    private static final String[] GIVERS = {"land", "law", "work", "book"};

    private PromiseBoundaries() {
    }

    /** By its number in GIVERS. */
    private static int text(RoadHolidays x, int kind, int n) {
        switch (kind) {
            case 0: return x.land(n);
            case 1: return x.law(n);
            case 2: return x.work(n);
            default: return x.book(n);
        }
    }

    private static void feeds(RoadHolidays x, int times) {
        for (int i = 0; i < times; i++) {
            x.feed(0x20202020, 0x20202020, 0x20202020, 0x20202020, 0x20202020);
        }
    }

    @Says(in = 1, words = "A LAND without CLAUSES.")
    static void newObject(Check c) {
        RoadHolidays x = new RoadHolidays();
        for (int what = 0; what <= 11; what++) {
            c.due("told " + what, 0, x.told(what));
        }
        c.noSuch("no TOWN", () -> x.town(0, 0));
        c.noSuch("no ROAD", () -> x.road(0, 0));
        c.noSuch("no CARTER", () -> x.carter(0, 0));
        c.due("no FAULT", -1, x.fault());
        c.due("no WORK", -1, x.undo());
        c.due("no IMAGE", -1, x.restore());
        for (int what = 0; what <= 2; what++) {
            c.due("count " + what, 0, x.count(what));
            c.due("none farthest " + what, -1, x.farthest(what));
            c.due("none to mend " + what, -1, x.mend(what));
        }
        c.due("joined", 1, x.joined(6) ? 1 : 0);
        // It is as one that was told a LAND without CLAUSES.
        Sight.same(c, "an empty LAND", RoadHolidays::new, y -> y.land(0));
    }

    @Says(in = 2, words = "Twenty bytes come on the TAPE, of each number the highest first: how many there are")
    static void bytesOfNumbers(Check c) {
        RoadHolidays x = new RoadHolidays();
        c.due("feed", 20, x.feed(0x746f776e, 0x3b746f77, 0x6e3b746f, 0x776e3b74, 0x6f776e3b));
        c.due("feed more", 40, x.feed(0x20202020, 0x746f776e, 0x3b202020, 0x20202020, 0x2020203b));
        c.due("byte 39 can't stand", -9, x.land(40));
        c.due("at 39", 39, x.fault());
        // Bytes beyond 127, and numbers below 0.
        int[][] numbers = {{-1, 0, 0, 0, 0}, {0x20ffffff, 0, 0, 0, 0}, {0x2020ffff, 0, 0, 0, 0}, {0x202020ff, 0, 0, 0, 0},
            {0x20202020, 0x80000000, 0, 0, 0}, {0x20202020, 0x20202020, 0x20202020, 0x20202020, 0x20202080}};
        int[] places = {0, 1, 2, 3, 4, 19};
        for (int i = 0; i < numbers.length; i++) {
            int[] n = numbers[i];
            c.due("feed again", 20, x.feed(n[0], n[1], n[2], n[3], n[4]));
            c.due("can't stand", -9, x.land(20));
            c.due("place", places[i], x.fault());
        }
    }

    @Says(in = 2, words = "NONE, doing nothing, if there would be more than 600.")
    static void feedStopsAt600(Check c) {
        RoadHolidays x = new RoadHolidays();
        for (int i = 1; i <= 30; i++) {
            c.due("feed " + i, 20 * i, x.feed(0x746f776e, 0x3b202020, 0x20202020, 0x20202020, 0x20202020));
        }
        for (int i = 0; i < 3; i++) {
            c.due("one more", -1, x.feed(-1, -1, -1, -1, -1));
            c.due("the TAPE is as it was", 600, x.count(1));
        }
        // 8 TOWNS: none of the first bytes was changed.
        c.due("too many TOWNS", -7, x.land(600));
        c.due("the eighth", 140, x.fault());
        c.due("room again", 20, x.feed(0, 0, 0, 0, 0));
        Sight.same(c, "feed on a full TAPE", PromiseBoundaries::full, y -> y.feed(-1, -1, -1, -1, -1));
    }

    private static RoadHolidays full() {
        RoadHolidays x = Made.lively();
        feeds(x, 29);
        return x;
    }

    @Says(in = 3, words = "IllegalArgumentException: n is not 0 to the TAPE's bytes (it stays).")
    static void bytesOfLands(Check c) {
        for (int tape : new int[] {0, 20, 580, 600}) {
            RoadHolidays x = new RoadHolidays();
            feeds(x, tape / 20);
            c.wrongArgument("land(" + (tape + 1) + ")", () -> x.land(tape + 1));
            c.wrongArgument("land(-1)", () -> x.land(-1));
            c.wrongArgument("land(601)", () -> x.land(601));
            c.due("it stays", tape, x.count(1));
            c.due("refused", 3, x.status(1));
            c.due("all of it", 0, x.land(tape));
            c.due("it is empty", 0, x.count(1));
            feeds(x, tape / 20);
            c.due("none of it", 0, x.land(0));
            c.due("it is empty all the same", 0, x.count(1));
        }
        refusedTexts(c, 0, 601);
    }

    @Says(in = 3, words = "The first n bytes of the TAPE (empty then)")
    static void nothingBehindTheFirstBytesIsRead(Check c) {
        RoadHolidays x = Made.with(Made.LAND);
        for (int n = 1; n <= 3; n++) {
            Check.feed(x, "1111111111");
            c.due("law of " + n, 1, x.law(n));
            c.due("its pace", n == 1 ? 1 : 9, x.road(0, 7));
            c.due("the TAPE is empty", 0, x.count(1));
        }
        Check.feed(x, "(1)+5");
        c.due("law(3)", 1, x.law(3));
        c.due("without what is added", 1, x.road(0, 7));
        // Signs, letters, digits and blanks behind the last byte are none of the text's.
        String[] texts = {"town", "town;", "townx;", "town ;", "town;town;road 0 1 4", "town;town;road 0 1 40 0", "town;carter 0 9;"};
        int[] bytes = {3, 4, 4, 5, 20, 22, 15};
        int[] places = {0, 4, 4, 5, 20, 22, 15};
        for (int i = 0; i < texts.length; i++) {
            Check.feed(x, texts[i]);
            c.due("land of " + bytes[i] + " of '" + texts[i] + "'", -9, x.land(bytes[i]));
            c.due("at the length, or the word", places[i], x.fault());
        }
        Check.feed(x, "hour;hour;");
        c.due("one hour", 1, x.work(5));
        Check.feed(x, "0 1;2 3;");
        c.due("one line", 1, x.book(4));
    }

    @Says(in = 4, words = "Likewise the LAW (n to 150): 1.")
    static void bytesOfLaws(Check c) {
        refusedTexts(c, 1, 151);
        likewise(c, 1, 150, "7");
    }

    @Says(in = 5, words = "Likewise WORK (n to 150)")
    static void bytesOfWorks(Check c) {
        refusedTexts(c, 2, 151);
        likewise(c, 2, 150, "hour;");
    }

    @Says(in = 6, words = "Likewise the BOOK (n to 60): how many lines.")
    static void bytesOfBooks(Check c) {
        refusedTexts(c, 3, 61);
        likewise(c, 3, 60, "0 0;");
    }

    /** Of a full TAPE, and of one of 20 bytes: what is refused leaves all as it was. */
    private static void refusedTexts(Check c, int kind, int tooMany) {
        for (int n : new int[] {-1, tooMany, Integer.MIN_VALUE, Integer.MAX_VALUE}) {
            String call = GIVERS[kind] + "(" + n + ")";
            Sight.same(c, call + " of 600", PromiseBoundaries::full, x -> c.wrongArgument(call, () -> text(x, kind, n)), "status(1)", 3);
        }
        for (int n : new int[] {-1, 21}) {
            String call = GIVERS[kind] + "(" + n + ")";
            Sight.same(c, call + " of 20", Made::lively, x -> c.wrongArgument(call, () -> text(x, kind, n)), "status(1)", 3);
        }
    }

    /** As many bytes as there may be, and as many as there are. */
    private static void likewise(Check c, int kind, int most, String right) {
        RoadHolidays x = new RoadHolidays();
        Check.feed(x, right + " ".repeat(most));
        c.due(GIVERS[kind] + "(" + most + ")", 1, text(x, kind, most));
        c.due("the TAPE is empty", 0, x.count(1));
        Check.feed(x, right);
        c.wrongArgument(GIVERS[kind] + "(21)", () -> text(x, kind, 21));
        c.due("it stays", 20, x.count(1));
        c.due("the first bytes alone", 1, text(x, kind, right.length()));
        c.due("the TAPE is empty again", 0, x.count(1));
    }

    @Says(in = 3, words = "or the FAULT less 10 (all but the TAPE stays)")
    static void faultyLands(Check c) {
        faulty(c, 0, "town", -9, 4);
        faulty(c, 0, "road 0 1 1 1;", -8, 5);
        faulty(c, 0, "town;".repeat(8), -7, 35);
    }

    @Says(in = 5, words = "or the FAULT less 10 (none is)")
    static void faultyWorks(Check c) {
        faulty(c, 2, "hour;load 0 9;hours;", -9, 14);
        faulty(c, 2, "hour;load 0 9;load 0 100", -8, 21);
        faulty(c, 2, "hour;" + "again 1[".repeat(7), -7, 53);
        faulty(c, 2, "again 2[hour;]", -9, 14);
    }

    @Says(in = 4, words = "Likewise the LAW")
    static void faultyLaws(Check c) {
        faulty(c, 1, "", -9, 0);
        faulty(c, 1, "1000", -8, 0);
        faulty(c, 1, "(((((((1", -7, 6);
    }

    @Says(in = 6, words = "Likewise the BOOK")
    static void faultyBooks(Check c) {
        faulty(c, 3, "0 1;1", -9, 5);
        faulty(c, 3, "0 1;0 1;", -8, 4);
        faulty(c, 3, "0 1;1 1;2 1;3 1;4 1;5 1;6 1;", -7, 24);
    }

    private static void faulty(Check c, int kind, String text, int answer, int at) {
        Sight.same(c, GIVERS[kind] + " '" + text + "'", PromiseBoundaries::emptyTape, x -> {
            Check.feed(x, text);
            c.due(GIVERS[kind] + " '" + text + "'", answer, text(x, kind, text.length()));
            c.due("TAPE", 0, x.count(1));
        }, "fault()", at);
    }

    private static RoadHolidays emptyTape() {
        RoadHolidays x = Made.lively();
        x.law(0);
        Check.law(x, "    0)");
        return x;
    }

    @Says(in = 3, words = "are the LAND (no LAW, BOOK, IMAGES, nothing to undo): how many TOWNS")
    static void rightLands(Check c) {
        RoadHolidays x = Made.lively();
        c.due("of no bytes", 0, x.land(0));
        c.due("no TOWNS any more", 0, x.told(0));
        c.due("one", 1, Check.land(x, "town;"));
        c.due("seven", 7, Check.land(x, Made.FULL_LAND));
        Sight.same(c, "a new LAND", () -> Made.with(Made.LAND), y -> {
            Check.law(y, "9");
            Check.book(y, "0 1;");
            Check.work(y, "set 0 2;hour;turn 1;");
            y.image();
            y.image();
            Check.work(y, "off 0 5;load 0 7;hour;");
            c.due("towns", 4, Check.land(y, Made.LAND));
        });
        Sight.same(c, "CARTERS on the way, and one who turned", () -> Made.with(Made.LAND), y -> {
            Check.work(y, "set 0 2;set 1 2;hour;turn 1;");
            Check.land(y, Made.LAND);
        });
        Sight.same(c, "calls refused stay counted", () -> Made.with("town;"), y -> {
            Check.thrownBy(() -> y.town(1, 0));
            Check.thrownBy(() -> y.told(12));
            Check.thrownBy(() -> y.told(12));
            Check.land(y, "town;");
        }, "status(0)", 1, "status(1)", 2);
    }

    @Says(in = 5, words = "how many STEPS were done (agains not counted, nor REFUSED ones)")
    static void stepsDone(Check c) {
        c.due("none", 0, Check.work(Made.with(Made.LAND), ""));
        c.due("agains alone", 0, Check.work(Made.with(Made.LAND), "again 60[again 2[];];"));
        c.due("REFUSED alone", 0, Check.work(Made.with(Made.LAND), "turn 0;load 0 10;"));
        c.due("one of each kind", 5, Check.work(Made.with(Made.LAND), "set 0 0;turn 0;load 0 9;off 0 1;hour;turn 1;again 0[hour;];"));
        c.due("as many as can be", 199, Check.work(Made.with(Made.LAND), "again 60[hour;hour;hour;hour;];"));
    }

    @Says(in = 5, words = "-20 behind the exception, ahead of the FAULT (nothing is read, there is no FAULT, the TAPE is empty then): 16 WORKS are there that were not undone.")
    static void sixteenWorks(Check c) {
        RoadHolidays x = sixteen();
        c.due("works", 16, x.count(2));
        Check.law(x, "1)");
        Check.feed(x, "hours");
        c.wrongArgument("work(21)", () -> x.work(21));
        c.wrongArgument("work(-1)", () -> x.work(-1));
        c.due("the TAPE stays", 20, x.count(1));
        c.due("the FAULT too", 1, x.fault());
        c.due("faulty, but not read", -20, x.work(5));
        c.due("no FAULT", -1, x.fault());
        c.due("the TAPE is empty", 0, x.count(1));
        c.due("no bytes", -20, x.work(0));
        for (String text : new String[] {"hour;", "hours;", "", "turn 0;"}) {
            Sight.same(c, "17th '" + text + "'", PromiseBoundaries::sixteen, y -> c.due("17th '" + text + "'", -20, Check.work(y, text)), "fault()", -1);
        }
        c.due("one undone", 15, x.undo());
        c.due("another one", 1, Check.work(x, "hour;"));
        c.due("16 again", -20, Check.work(x, "hour;"));
        // A new LAND and an IMAGE of less WORKS make room.
        c.due("image", 1, x.image());
        c.due("one undone", 15, x.undo());
        c.due("restored", 0, x.restore());
        c.due("16 by the image", -20, Check.work(x, "hour;"));
        Check.land(x, Made.LAND);
        c.due("none there", 1, Check.work(x, "hour;"));
    }

    /** With WORKS of all kinds: with STEPS, without, and with REFUSED ones alone; the FAULT and the IMAGE are of the end. */
    private static RoadHolidays sixteen() {
        RoadHolidays x = Made.with("town;town;road 0 1 9 3;carter 0 1;");
        for (int i = 0; i < 16; i++) {
            Check.work(x, i % 4 == 0 ? "hour;load 0 " + (i + 2) + ";" : i % 4 == 1 ? "" : i % 4 == 2 ? "turn 0;" : "set 0 0;turn 0;hour;turn 0;");
        }
        Check.law(x, "1)");
        return x;
    }

    @Says(in = 7, words = "The place of the FAULT of the latest text; NONE without.")
    static void faultsOfTheLatestText(Check c) {
        RoadHolidays x = Made.with(Made.LAND);
        c.due("without any", -1, new RoadHolidays().fault());
        String[] wrong = {"town;x", "1+", "hour;x", "0 0;x"};
        String[] right = {Made.LAND, "1", "hour;", "0 0;"};
        for (int kind = 0; kind < 4; kind++) {
            Check.feed(x, wrong[kind]);
            text(x, kind, wrong[kind].length());
            int at = kind == 1 ? 2 : wrong[kind].length() - 1;
            c.due("of " + wrong[kind], at, x.fault());
            c.due("asked again", at, x.fault());
            for (int other = 0; other < 4; other++) {
                int k = other;
                Check.thrownBy(() -> text(x, k, -1));
                c.due("a refused " + GIVERS[other] + " is no text", at, x.fault());
            }
            x.feed(0, 0, 0, 0, 0);
            x.undo();
            x.image();
            x.restore();
            c.due("nor is anything else", at, x.fault());
            Check.law(x, ")");
            Check.feed(x, right[kind]);
            text(x, kind, right[kind].length());
            c.due("without: " + right[kind], -1, x.fault());
        }
        Check.law(x, "");
        c.due("0 is a place, too", 0, x.fault());
        x.land(0);
        c.due("no bytes without a FAULT", -1, x.fault());
    }

    @Says(in = 8, words = "The latest WORK that was done (of no STEPS, or with all of them REFUSED, too) is undone: how many are left; -1: there is none.")
    static void undoing(Check c) {
        RoadHolidays x = sixteen();
        for (int left = 15; left >= 0; left--) {
            c.due("left", left, x.undo());
            c.due("counted", left, x.count(2));
            c.due("none REFUSED", 0, x.told(10));
        }
        c.due("none", -1, x.undo());
        c.due("none again", -1, x.undo());
        String[] works = {"", "   ", "turn 0;load 0 10;", "again 60[];", "hour;", "set 0 2;hour;turn 0;load 0 1;off 2 6;again 30[hour;];"};
        for (String work : works) {
            Sight.same(c, "undone '" + work + "'", () -> Made.worked("set 1 3;hour;"), y -> {
                Check.work(y, work);
                c.due("two", 2, y.count(2));
                c.due("one is left", 1, y.undo());
            });
        }
        Sight.same(c, "undo without WORKS", PromiseBoundaries::withoutWorks, y -> c.due("undo", -1, y.undo()));
    }

    private static RoadHolidays withoutWorks() {
        RoadHolidays x = Made.with(Made.LAND, "7");
        x.image();
        Check.book(x, "0 7;");
        Check.law(x, ")");
        Check.feed(x, "town;");
        return x;
    }

    @Says(in = 9, words = "0 TOWNS, 1 ROADS, 2 CARTERS")
    static void noneAndAllOfThem(Check c) {
        int[][] many = {{0, 0, 0}, {7, 12, 5}};
        String[] lands = {"", Made.FULL_LAND};
        for (int i = 0; i < lands.length; i++) {
            for (int what = 0; what <= 2; what++) {
                c.due("told " + what, many[i][what], Made.with(lands[i]).told(what));
            }
        }
    }

    @Says(in = 9, words = "9 lines of the BOOK")
    static void linesOfTheBook(Check c) {
        RoadHolidays x = new RoadHolidays();
        c.due("no BOOK", 0, x.told(9));
        c.due("six", 6, Check.book(x, "0 0;1 0;2 0;3 0;4 0;55 0;"));
        c.due("six lines", 6, x.told(9));
        Check.book(x, "0 0;0 0;");
        c.due("a faulty one is none", 6, x.told(9));
        c.due("none", 0, x.book(0));
        c.due("no lines", 0, x.told(9));
    }

    @Says(in = 10, words = "Of a TOWN: 0 ROADS that go from it (bits), 1 CARTERS in it (bits).")
    static void ofATown(Check c) {
        RoadHolidays x = Made.with(Made.FULL_LAND);
        c.due("no ROADS", 0, x.town(0, 0));
        c.due("all ROADS", 4095, x.town(5, 0));
        c.due("all by their other end", 4095, x.town(6, 0));
        c.due("no CARTERS", 0, x.town(5, 1));
        c.due("all CARTERS", 31, x.town(6, 1));
        Check.work(x, "set 4 0;");
        c.due("who set out is in none", 15, x.town(6, 1));
        c.due("toward which he goes neither", 0, x.town(5, 1));
    }

    @Says(in = 12, words = "3 his load")
    static void loadsOfCarters(Check c) {
        RoadHolidays x = Made.with("town;carter 0 0;carter 0 99;");
        c.due("none", 0, x.carter(0, 3));
        c.due("the most", 99, x.carter(1, 3));
        Check.work(x, "load 0 99;load 1 0;");
        c.due("the most now", 99, x.carter(0, 3));
        c.due("none now", 0, x.carter(1, 3));
    }

    @Says(in = 9, words = "10 STEPS REFUSED by the latest WORK (0 ahead of any, behind land() without a FAULT, undo(), restore())")
    static void refusedByTheLatestWork(Check c) {
        RoadHolidays x = Made.with(Made.LAND);
        c.due("ahead of any", 0, x.told(10));
        Check.work(x, "turn 0;turn 1;hour;");
        c.due("two", 2, x.told(10));
        Check.work(x, "hours;");
        c.due("a faulty WORK is none", 2, x.told(10));
        Check.land(x, "x");
        c.due("a faulty LAND changes nothing", 2, x.told(10));
        x.image();
        Check.work(x, "turn 0;");
        c.due("one", 1, x.told(10));
        x.restore();
        c.due("behind restore()", 0, x.told(10));
        Check.work(x, "turn 0;");
        x.undo();
        c.due("behind undo()", 0, x.told(10));
        Check.work(x, "turn 0;");
        Check.work(x, "");
        c.due("by one of no STEPS", 0, x.told(10));
        Check.work(x, "turn 0;");
        Check.land(x, Made.LAND);
        c.due("behind land()", 0, x.told(10));
        c.due("200 at most, and one is the again", 0, Check.work(x, "again 60[turn 0;turn 0;turn 0;turn 0;];"));
        c.due("199", 199, x.told(10));
    }

    @Says(in = 9, words = "7 CARTERS who are on ROADS (bits), 8 ROADS that rest now (bits)")
    static void allOnRoadsAndAllAtRest(Check c) {
        RoadHolidays x = Made.with(Made.FULL_LAND);
        c.due("none on ROADS", 0, x.told(7));
        c.due("none rest", 0, x.told(8));
        Check.work(x, "set 0 0;set 1 1;set 2 2;set 3 3;set 4 11;again 48[hour;];");
        c.due("all came by now", 5, x.told(11));
        c.due("all rest", 4095, x.told(8));
        Check.work(x, "set 0 0;set 1 1;set 2 2;set 3 3;set 4 11;");
        c.due("all on ROADS", 31, x.told(7));
        c.due("in no TOWN", 0, x.town(5, 1) + x.town(6, 1));
        c.due("the last ROAD", 16, x.road(11, 5));
        Check.work(x, "off 0 0;off 11 5;");
        c.due("all but two", 4095 - 1 - 2048, x.told(8));
        c.due("all that go", 4095, x.town(5, 0));
        c.due("none from TOWN 0", 0, x.town(0, 0));
    }

    @Says(in = 9, words = "11 how often a CARTER came to a TOWN by a ROAD by now")
    static void comings(Check c) {
        RoadHolidays x = Made.with("town;town;road 0 1 2 6;carter 0 1;carter 0 2;");
        c.due("none", 0, x.told(11));
        Check.work(x, "set 0 0;set 1 0;hour;");
        c.due("two at one time", 2, x.told(11));
        Check.work(x, "set 0 0;turn 0;hour;");
        c.due("back where he was is a coming, too", 3, x.told(11));
        x.undo();
        c.due("undone", 2, x.told(11));
    }

    @Says(in = 11, words = "6 PACE now (0 on its DAY OFF), 7 PLAIN PACE on other days.")
    static void paceNow(Check c) {
        RoadHolidays x = Made.with("town;town;road 0 1 9 1;carter 0 3;", "1+hour+load");
        Check.work(x, "again 7[hour;];");
        c.due("the hour ahead of its DAY OFF", 8, x.road(0, 6));
        Check.work(x, "hour;set 0 0;");
        c.due("its first hour", 0, x.road(0, 6));
        c.due("on other days", 1, x.road(0, 7));
        Check.work(x, "again 7[hour;];");
        c.due("its last hour", 0, x.road(0, 6));
        Check.work(x, "hour;");
        c.due("the hour behind it", 4, x.road(0, 6));
        Check.work(x, "off 0 2;");
        c.due("now it is today", 0, x.road(0, 6));
        c.due("on other days still", 1, x.road(0, 7));
    }

    @Says(in = 12, words = "4 the other TOWN of the ROAD on which he is, or by which he came last (that where he was told at first, if he never was on a ROAD)")
    static void otherTownsOfCarters(Check c) {
        RoadHolidays x = Made.with("town;town;town;road 0 1 2 6;road 1 2 2 6;carter 2 0;carter 0 0;");
        c.due("told in TOWN 2", 2, x.carter(0, 4));
        Check.work(x, "set 0 1;");
        c.due("on the ROAD from 2", 2, x.carter(0, 4));
        Check.work(x, "turn 0;");
        c.due("turned", 1, x.carter(0, 4));
        Check.work(x, "hour;");
        c.due("he came to 2 by the ROAD from 1", 1, x.carter(0, 4));
        c.due("and is in 2", 2, x.carter(0, 0));
        Check.work(x, "set 0 1;hour;");
        c.due("came from 2", 2, x.carter(0, 4));
        Check.work(x, "set 0 0;");
        c.due("on the ROAD from 1", 1, x.carter(0, 4));
        Check.work(x, "hour;hour;");
        c.due("came from 1", 1, x.carter(0, 4));
        c.due("never on a ROAD", 0, x.carter(1, 4));
        for (int i = 0; i < 6; i++) {
            x.undo();
        }
        c.due("as at first", 2, x.carter(0, 4));
    }

    @Says(in = 29, words = "The ROAD that is most TIRED (what 0), of alike ones the first, how TIRED (1); NONE both: there are no ROADS.")
    static void mostTired(Check c) {
        for (String land : new String[] {"", "town;", "town;town;carter 0 1;"}) {
            c.due("no ROADS", -1, Made.with(land).weariest(0));
            c.due("no ROADS at all", -1, Made.with(land).weariest(1));
        }
        RoadHolidays x = Made.with(Made.FULL_LAND);
        c.due("all alike", 0, x.weariest(0));
        c.due("none TIRED", 0, x.weariest(1));
        Check.work(x, "set 0 11;hour;");
        c.due("the last", 11, x.weariest(0));
        c.due("by one", 1, x.weariest(1));
        Check.work(x, "load 0 0;set 1 3;hour;set 1 3;hour;");
        c.due("more than by one", 11, x.weariest(0));
        RoadHolidays y = Made.with(Made.FULL_LAND);
        Check.work(y, "set 0 11;set 1 4;hour;");
        c.due("the first of two", 4, y.weariest(0));
    }

    @Says(in = 30, words = "In how many hours (0 to 999), nothing else being done, a CARTER is in a TOWN (0: he is); NONE.")
    static void arrivals(Check c) {
        // From week 17 on a mile an hour: 952 hours, 8 of rest, and as many as the ROAD has miles.
        RoadHolidays x = Made.with("town;town;road 0 1 39 0;road 0 1 40 0;road 0 1 1 3;carter 0 1;carter 0 1;carter 0 1;carter 0 1;", "week/17");
        Check.work(x, "set 0 0;set 1 1;set 3 2;");
        c.due("in 999 hours", 999, x.arrives(0));
        c.due("in 1,000", -1, x.arrives(1));
        c.due("he is", 0, x.arrives(2));
        c.due("the short one", 953, x.arrives(3));
        Check.work(x, "hour;");
        c.due("in 998 by now", 998, x.arrives(0));
        c.due("in 999 by now", 999, x.arrives(1));
        Check.law(x, "0");
        c.due("never", -1, x.arrives(0));
        Check.work(x, "turn 0;");
        c.due("behind the DAY OFF, though by no PACE", 8, x.arrives(0));
        Check.law(x, "9");
        c.due("by real hours", 7 + 5, x.arrives(1));
        // Two on a ROAD go 3 miles an hour, one alone goes 4.
        RoadHolidays y = Made.with("town;town;road 0 1 11 6;carter 0 1;carter 1 1;", "5-many");
        Check.work(y, "set 0 0;hour;set 1 0;");
        c.due("3 hours of 3", 3, y.arrives(0));
        c.due("then one of 4", 4, y.arrives(1));
        c.due("nothing stays changed", 1, y.told(3));
    }

    @Says(in = 34, words = "An IMAGE of all that WORK changes, and of the WORKS that can be undone: how many there are; -1: there are 3.")
    static void threeImages(Check c) {
        RoadHolidays x = Made.with(Made.LAND);
        for (int i = 1; i <= 3; i++) {
            c.due("image " + i, i, x.image());
            c.due("counted", i, x.count(0));
        }
        c.due("fourth", -1, x.image());
        c.due("three are there", 3, x.count(0));
        c.due("latest", 2, x.restore());
        c.due("third again", 3, x.image());
        Sight.same(c, "a fourth IMAGE", PromiseBoundaries::threeUnlike, y -> c.due("fourth", -1, y.image()));
        // Of 16 WORKS, and of none.
        Sight.same(c, "IMAGES of 16 WORKS", PromiseBoundaries::sixteen, y -> {
            y.image();
            while (y.count(2) > 0) {
                y.undo();
            }
            y.image();
            Check.work(y, "hour;set 0 0;hour;load 0 77;");
            c.due("one is left", 1, y.restore());
            c.due("of none", 0, y.count(2));
            c.due("none is left", 0, y.restore());
            c.due("of 16", 16, y.count(2));
        }, "told(10)", 0, "fault()", -1);
    }

    private static RoadHolidays threeUnlike() {
        RoadHolidays x = Made.worked("set 0 2;hour;");
        x.image();
        Check.work(x, "load 0 3;turn 0;");
        x.image();
        x.undo();
        x.undo();
        x.image();
        Check.work(x, "off 1 6;turn 0;");
        return x;
    }

    @Says(in = 35, words = "All is as in the latest IMAGE, which is gone: how many are left; -1: there is none.")
    static void restoring(Check c) {
        RoadHolidays x = threeUnlike();
        for (int left = 2; left >= 0; left--) {
            c.due("left", left, x.restore());
            c.due("counted", left, x.count(0));
        }
        c.due("none", -1, x.restore());
        c.due("none again", -1, x.restore());
        c.due("of the first", 1, x.count(2));
        c.due("its hour", 1, x.told(3));
        // What WORK does not change is not kept: LAW, BOOK, FAULT, TAPE, refused calls.
        Sight.same(c, "restored", () -> {
            RoadHolidays y = Made.worked("set 0 2;hour;");
            Check.law(y, "5");
            Check.book(y, "0 0;");
            Check.law(y, ")");
            Check.thrownBy(() -> y.told(12));
            Check.feed(y, "town;");
            return y;
        }, y -> {
            y.image();
            y.work(0);
            Check.law(y, ")");
            Check.work(y, "turn 0;again 60[hour;];set 0 0;load 0 99;off 3 3;turn 1;");
            Check.law(y, ")");
            Check.feed(y, "town;");
            y.restore();
        });
        // The WORKS of the IMAGE are undone, not those that were done in their stead.
        Sight.same(c, "other WORKS", PromiseBoundaries::threeWorks, y -> {
            y.image();
            y.undo();
            y.undo();
            Check.work(y, "load 1 1;set 1 3;off 2 2;");
            y.image();
            y.undo();
            y.undo();
            for (int i = 0; i < 6; i++) {
                Check.work(y, "load 0 " + (i + 50) + ";hour;");
            }
            c.due("one is left", 1, y.restore());
            c.due("two WORKS", 2, y.count(2));
            c.due("none is left", 0, y.restore());
            c.due("three WORKS", 3, y.count(2));
        });
        Sight.same(c, "restore() without IMAGES", () -> Made.worked("set 0 2;hour;turn 1;"), y -> c.due("restore", -1, y.restore()));
    }

    private static RoadHolidays threeWorks() {
        RoadHolidays x = Made.worked("set 0 2;hour;load 1 7;");
        Check.work(x, "turn 0;off 1 5;load 0 3;");
        Check.work(x, "hour;set 1 1;off 0 4;");
        return x;
    }

    @Says(in = 36, words = "How many calls were refused: 0 NoSuchElementException, 1 IllegalArgumentException; NONE for others. (No IMAGE keeps it.)")
    static void refusedCalls(Check c) {
        RoadHolidays x = new RoadHolidays();
        for (int what : new int[] {-1, 2, 3, Integer.MIN_VALUE, Integer.MAX_VALUE}) {
            c.due("others", -1, x.status(what));
        }
        c.due("none 0", 0, x.status(0));
        c.due("none 1", 0, x.status(1));
        x.image();
        Check.thrownBy(() -> x.town(0, 9));
        Check.thrownBy(() -> x.land(1));
        Check.thrownBy(() -> x.told(12));
        x.restore();
        c.due("one", 1, x.status(0));
        c.due("two", 2, x.status(1));
        // What answers NONE, or a FAULT, was not refused.
        x.restore();
        x.undo();
        Check.law(x, "");
        x.count(9);
        x.land(0);
        c.due("still one", 1, x.status(0));
        c.due("still two", 2, x.status(1));
    }

    @Says(in = 37, words = "0 IMAGES, 1 bytes of the TAPE, 2 WORKS that can be undone; NONE for others.")
    static void counts(Check c) {
        RoadHolidays x = new RoadHolidays();
        for (int what : new int[] {-1, 3, 4, Integer.MIN_VALUE, Integer.MAX_VALUE}) {
            c.due("others", -1, x.count(what));
        }
        c.due("others are not refused", 0, x.status(0) + x.status(1));
        for (int what = 0; what <= 2; what++) {
            c.due("none " + what, 0, x.count(what));
        }
        for (int i = 0; i < 16; i++) {
            x.work(0);
            x.image();
        }
        feeds(x, 30);
        c.due("three", 3, x.count(0));
        c.due("600", 600, x.count(1));
        c.due("16", 16, x.count(2));
        x.land(0);
        for (int what = 0; what <= 2; what++) {
            c.due("none again " + what, 0, x.count(what));
        }
    }

    @Says(in = 0, words = "An object is used for at most 512 calls after it has been made")
    static void theLastOfItsCalls(Check c) {
        RoadHolidays x = new RoadHolidays();
        for (int call = 1; call <= 511; call++) {
            c.wrongArgument("call " + call, () -> x.told(12));
        }
        c.due("call 512", 511, x.status(1));
        RoadHolidays y = new RoadHolidays();
        for (int call = 1; call <= 511; call += 7) {
            Check.feed(y, Made.LAND);
            c.due("land", 4, y.land(Made.LAND.length()));
            y.image();
        }
        c.due("call 512 behind many texts", 1, y.count(0));
    }
}
