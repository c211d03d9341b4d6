/** What may stand in a text, and where a FAULT lies. */
final class TextBoundaries {
    interface Reading {
        int read(RoadHolidays x, String text);
    }

    private static final String TWO = "town;town;";

    /** Of each kind of text one with all its signs and words, and which of its tokens may be the last one. */
    private static final String[] LANDS = {"town", ";", "town", ";", "road", "0", "1", "40", "6", ";", "carter", "1", "99", ";"};
    private static final String[] LAWS = {"least", "[", "length", "+", "tired", "-", "load", ",", "most", "[", "many", "*", "hour", "/",
        "day", ",", "week", "%", "road", "]", "]", "-", "(", "999", ")"};
    private static final String[] WORKS = {"set", "1", "3", ";", "turn", "0", ";", "load", "0", "99", ";", "off", "3", "6", ";",
        "again", "60", "[", "hour", ";", "again", "0", "[", "]", ";", "]", ";"};
    private static final String[] BOOKS = {"0", "0", ";", "55", "99", ";"};

    private TextBoundaries() {
    }

    private static void right(Check c, Reading kind, String text, int answer) {
        RoadHolidays x = Made.with(Made.LAND);
        c.due("'" + text + "'", answer, kind.read(x, text));
        c.due("fault of '" + text + "'", -1, x.fault());
    }

    private static void faulty(Check c, Reading kind, String text, int fault, int at) {
        RoadHolidays x = Made.with(Made.LAND);
        c.due("'" + text + "'", fault - 10, kind.read(x, text));
        c.due("fault of '" + text + "'", at, x.fault());
    }

    // ---- LAND

    @Says(in = 0, words = "A LAND is a text of up to 600 bytes")
    static void landOf600Bytes(Check c) {
        String text = Made.FULL_LAND.substring(0, Made.FULL_LAND.length() - 1);
        String blanks = " ".repeat(599 - text.length());
        right(c, Check::land, text + blanks + ";", 7);
        faulty(c, Check::land, text + blanks + "]", 1, 599);
        faulty(c, Check::land, text + blanks + " ", 1, 600);
        right(c, Check::land, " ".repeat(600), 0);
    }

    @Says(in = 0, words = "{ CLAUSE \";\" }, at most 60")
    static void landOfNoClausesAndOfAll(Check c) {
        right(c, Check::land, "", 0);
        faulty(c, Check::land, ";", 1, 0);
        faulty(c, Check::land, "town;;", 1, 5);
        // 7, 12 and 5 are 24: a 25th CLAUSE is one too many of its kind, so that no text comes to a 61st.
        right(c, Check::land, Made.FULL_LAND, 7);
        for (String word : new String[] {"town", "road", "carter"}) {
            faulty(c, Check::land, Made.FULL_LAND + word, 3, Made.FULL_LAND.length());
        }
    }

    @Says(in = 0, words = "\"town\" (TOWNS, numbered from 0 on, 7 at most)")
    static void sevenTowns(Check c) {
        right(c, Check::land, "town;", 1);
        right(c, Check::land, "town;".repeat(7), 7);
        faulty(c, Check::land, "town;".repeat(8), 3, 35);
        RoadHolidays x = Made.with("town;".repeat(7) + "road 0 6 1 0;");
        c.due("road from town 0", 1, x.town(0, 0));
        c.due("road to town 6", 1, x.town(6, 0));
        c.noSuch("town 7", () -> x.town(7, 0));
    }

    @Says(in = 0, words = "\"road\" A B L D (ROADS likewise, 12:")
    static void twelveRoads(Check c) {
        right(c, Check::land, TWO + "road 0 1 1 0;".repeat(12), 2);
        faulty(c, Check::land, TWO + "road 0 1 1 0;".repeat(13), 3, 10 + 12 * 13);
        RoadHolidays x = Made.with(TWO + "road 0 1 1 0;".repeat(11) + "road 0 1 2 0;");
        c.due("roads", 12, x.told(1));
        c.due("road 0", 1, x.road(0, 2));
        c.due("road 11", 2, x.road(11, 2));
        c.noSuch("road 12", () -> x.road(12, 2));
    }

    @Says(in = 0, words = "between TOWNS A and B, both told ahead")
    static void townsOfRoadsToldAhead(Check c) {
        right(c, Check::land, TWO + "road 0 1 1 0;", 2);
        right(c, Check::land, TWO + "road 1 0 1 0;", 2);
        faulty(c, Check::land, TWO + "road 2 0 1 0;town;", 2, 15);
        faulty(c, Check::land, TWO + "road 0 2 1 0;town;", 2, 17);
        faulty(c, Check::land, "road 0 1 1 0;" + TWO, 2, 5);
        faulty(c, Check::land, "town;road 0 1 1 0;town;", 2, 12);
    }

    @Says(in = 0, words = "B not A")
    static void roadToItsOwnTown(Check c) {
        faulty(c, Check::land, TWO + "road 0 0 1 0;", 2, 17);
        faulty(c, Check::land, TWO + "road 1 001 1 0;", 2, 17);
        faulty(c, Check::land, "town;road 0 0 1 0;", 2, 12);
    }

    @Says(in = 0, words = "LENGTH L, 1 to 40 miles")
    static void lengths(Check c) {
        right(c, Check::land, TWO + "road 0 1 1 0;", 2);
        right(c, Check::land, TWO + "road 0 1 40 0;", 2);
        faulty(c, Check::land, TWO + "road 0 1 0 0;", 2, 19);
        faulty(c, Check::land, TWO + "road 0 1 41 0;", 2, 19);
    }

    @Says(in = 0, words = "DAY OFF D, 0 to 6")
    static void daysOff(Check c) {
        right(c, Check::land, TWO + "road 0 1 1 0;", 2);
        right(c, Check::land, TWO + "road 0 1 1 6;", 2);
        faulty(c, Check::land, TWO + "road 0 1 1 7;", 2, 21);
    }

    @Says(in = 0, words = "\"carter\" T N (CARTERS likewise, 5:")
    static void fiveCarters(Check c) {
        right(c, Check::land, "town;" + "carter 0 0;".repeat(5), 1);
        faulty(c, Check::land, "town;" + "carter 0 0;".repeat(6), 3, 5 + 5 * 11);
        RoadHolidays x = Made.with("town;" + "carter 0 0;".repeat(4) + "carter 0 7;");
        c.due("carters", 5, x.told(2));
        c.due("carter 4", 7, x.carter(4, 3));
        c.noSuch("carter 5", () -> x.carter(5, 3));
    }

    @Says(in = 0, words = "in TOWN T, told ahead")
    static void townsOfCartersToldAhead(Check c) {
        right(c, Check::land, TWO + "carter 0 0;carter 1 0;", 2);
        faulty(c, Check::land, TWO + "carter 2 0;town;", 2, 17);
        faulty(c, Check::land, "carter 0 0;town;", 2, 7);
    }

    @Says(in = 0, words = "with a load of N, 0 to 99")
    static void loads(Check c) {
        right(c, Check::land, "town;carter 0 0;", 1);
        right(c, Check::land, "town;carter 0 99;", 1);
        faulty(c, Check::land, "town;carter 0 100;", 2, 14);
    }

    // ---- LAW

    @Says(in = 0, words = "A LAW is a text of up to 150 bytes: E, at the end nothing more")
    static void lawOf150Bytes(Check c) {
        right(c, Check::law, "0".repeat(149) + "7", 1);
        right(c, Check::law, " " + "0+".repeat(74) + "7", 1);
        RoadHolidays x = Made.with(Made.LAND, " " + "0+".repeat(74) + "7");
        c.due("75 numbers", 7, x.road(0, 7));
        Check.law(x, " " + "0+".repeat(74) + "8");
        c.due("the last of them", 8, x.road(0, 7));
        right(c, Check::law, "7" + " ".repeat(149), 1);
        faulty(c, Check::law, "", 1, 0);
        faulty(c, Check::law, " ".repeat(150), 1, 150);
        faulty(c, Check::law, "7 7", 1, 2);
        faulty(c, Check::law, "7)", 1, 1);
        faulty(c, Check::law, "7;", 1, 1);
        faulty(c, Check::law, "7week", 1, 1);
    }

    @Says(in = 0, words = "U: N (0 to 999)")
    static void numbersOfLaws(Check c) {
        right(c, Check::law, "0", 1);
        right(c, Check::law, "999", 1);
        faulty(c, Check::law, "1000", 2, 0);
        faulty(c, Check::law, "0+0999- 1000", 2, 8);
        c.due("999 - 990", 9, Made.with(Made.LAND, "999-990").road(0, 7));
        c.due("999 - 991", 8, Made.with(Made.LAND, "999-991").road(0, 7));
        faulty(c, Check::law, "-1", 1, 0);
    }

    @Says(in = 0, words = "E: T { + or - T }. T: U { * or / or % U }.")
    static void signsWithoutValues(Check c) {
        for (char sign : "+-*/%".toCharArray()) {
            right(c, Check::law, "1" + sign + "1" + sign + "1", 1);
            faulty(c, Check::law, sign + "1", 1, 0);
            faulty(c, Check::law, "1" + sign, 1, 2);
            faulty(c, Check::law, "1" + sign + sign + "1", 1, 2);
            faulty(c, Check::law, "(1" + sign + ")", 1, 3);
        }
        for (String sign : new String[] {"^", "&", "=", "!", "#", "'", ".", "\\", "<"}) {
            faulty(c, Check::law, "1" + sign + "1", 1, 1);
        }
    }

    @Says(in = 0, words = "\"least\" \"[\" E \",\" E \"]\", \"most\" \"[\" E \",\" E \"]\", or \"(\" E \")\"")
    static void bracketsWithoutTheirParts(Check c) {
        for (String word : new String[] {"least", "most"}) {
            int n = word.length();
            right(c, Check::law, word + "[1,2]", 1);
            faulty(c, Check::law, word, 1, n);
            faulty(c, Check::law, word + "(1,2)", 1, n);
            faulty(c, Check::law, word + "[]", 1, n + 1);
            faulty(c, Check::law, word + "[1]", 1, n + 2);
            faulty(c, Check::law, word + "[1,]", 1, n + 3);
            faulty(c, Check::law, word + "[,1]", 1, n + 1);
            faulty(c, Check::law, word + "[1,2", 1, n + 4);
            faulty(c, Check::law, word + "[1,2)", 1, n + 4);
            faulty(c, Check::law, word + "[1,2,3]", 1, n + 4);
            faulty(c, Check::law, word + "[1,2]]", 1, n + 5);
        }
        right(c, Check::law, "(1)", 1);
        faulty(c, Check::law, "()", 1, 1);
        faulty(c, Check::law, "(1", 1, 2);
        faulty(c, Check::law, "(1]", 1, 2);
        faulty(c, Check::law, "(1,2)", 1, 2);
        faulty(c, Check::law, "(1))", 1, 3);
    }

    // ---- WORK

    @Says(in = 0, words = "WORK is a text of up to 150 bytes: { STEP \";\" }")
    static void workOf150Bytes(Check c) {
        right(c, Check::work, "hour;".repeat(30), 30);
        right(c, Check::work, "hour;".repeat(29) + " ".repeat(5), 29);
        faulty(c, Check::work, "hour;".repeat(29) + "hour ", 1, 150);
        right(c, Check::work, "", 0);
        right(c, Check::work, " ".repeat(150), 0);
        faulty(c, Check::work, ";", 1, 0);
        faulty(c, Check::work, "hour;;", 1, 5);
        faulty(c, Check::work, "hour hour;", 1, 5);
    }

    @Says(in = 0, words = "\"set\" C R, \"turn\" C")
    static void cartersAndRoadsOfSteps(Check c) {
        right(c, Check::work, "set 0 0;", 1);
        right(c, Check::work, "set 1 3;turn 1;", 2);
        faulty(c, Check::work, "set 2 0;", 2, 4);
        faulty(c, Check::work, "set 0 4;", 2, 6);
        faulty(c, Check::work, "set 0;", 1, 5);
        faulty(c, Check::work, "set;", 1, 3);
        faulty(c, Check::work, "turn 2;", 2, 5);
        faulty(c, Check::work, "turn;", 1, 4);
        faulty(c, Check::work, "turn 0 0;", 1, 7);
    }

    @Says(in = 0, words = "\"load\" C N (0 to 99)")
    static void loadsOfSteps(Check c) {
        right(c, Check::work, "load 1 0;load 0 99;", 2);
        faulty(c, Check::work, "load 0 100;", 2, 7);
        faulty(c, Check::work, "load 2 0;", 2, 5);
        faulty(c, Check::work, "load 0;", 1, 6);
    }

    @Says(in = 0, words = "\"off\" R D (0 to 6)")
    static void daysOffOfSteps(Check c) {
        right(c, Check::work, "off 3 6;off 3 0;", 2);
        faulty(c, Check::work, "off 0 7;", 2, 6);
        faulty(c, Check::work, "off 4 0;", 2, 4);
        faulty(c, Check::work, "off 0;", 1, 5);
    }

    @Says(in = 0, words = "or \"again\" N \"[\" { STEP \";\" } \"]\" (N 0 to 60)")
    static void turnsOfAgains(Check c) {
        right(c, Check::work, "again 0[hour;];", 0);
        right(c, Check::work, "again 1[hour;];", 1);
        right(c, Check::work, "again 60[hour;];", 60);
        right(c, Check::work, "again 60[];", 0);
        faulty(c, Check::work, "again 61[hour;];", 2, 6);
        faulty(c, Check::work, "again[hour;];", 1, 5);
        faulty(c, Check::work, "again 1(hour;);", 1, 7);
        faulty(c, Check::work, "again 1[hour];", 1, 12);
        faulty(c, Check::work, "again 1[;];", 1, 8);
        faulty(c, Check::work, "again 1[hour;]", 1, 14);
        faulty(c, Check::work, "again 1[hour;];];", 1, 15);
        faulty(c, Check::work, "];", 1, 0);
        faulty(c, Check::work, "hour;]", 1, 5);
    }

    @Says(in = 0, words = "a number that is none such")
    static void numbersWhereThereIsNothing(Check c) {
        String[] works = {"set 0 0;", "turn 0;", "load 0 0;"};
        int[] places = {4, 5, 5};
        for (int i = 0; i < works.length; i++) {
            RoadHolidays x = Made.with(TWO + "road 0 1 1 0;");
            c.due("no carters: " + works[i], -8, Check.work(x, works[i]));
            c.due("place", places[i], x.fault());
        }
        RoadHolidays y = Made.with("town;carter 0 0;");
        c.due("no roads: off", -8, Check.work(y, "off 0 0;"));
        c.due("no roads: set", -8, Check.work(y, "set 0 0;"));
        c.due("at the road", 6, y.fault());
        RoadHolidays z = Made.with("");
        c.due("no towns", -8, Check.land(z, "carter 0 0;"));
    }

    // ---- BOOK

    @Says(in = 0, words = "A BOOK is one of up to 60 bytes: { H M \";\" }")
    static void bookOf60Bytes(Check c) {
        right(c, Check::book, "0 0" + " ".repeat(56) + ";", 1);
        faulty(c, Check::book, "0 0" + " ".repeat(57), 1, 60);
        right(c, Check::book, "0".repeat(56) + "1 2;", 1);
        right(c, Check::book, "", 0);
        right(c, Check::book, " ".repeat(60), 0);
        faulty(c, Check::book, ";", 1, 0);
        faulty(c, Check::book, "0 0;;", 1, 4);
        faulty(c, Check::book, "0;", 1, 1);
        faulty(c, Check::book, "0 0 0;", 1, 4);
        faulty(c, Check::book, "hour;", 1, 0);
    }

    @Says(in = 0, words = "no H twice, 6 lines at most")
    static void sixLinesOfUnlikeHours(Check c) {
        String six = "0 0;1 0;2 0;3 0;4 0;5 0;";
        right(c, Check::book, six, 6);
        faulty(c, Check::book, six + "6 0;", 3, 24);
        faulty(c, Check::book, "7 0;07 0;", 2, 4);
        faulty(c, Check::book, "0 0;1 0;2 0;3 0;4 0;0 0;", 2, 20);
        right(c, Check::book, "0 7;1 7;", 2);
    }

    @Says(in = 0, words = "who set out at HOUR H of the week (0 to 55)")
    static void hoursOfBooks(Check c) {
        right(c, Check::book, "0 0;55 0;", 2);
        faulty(c, Check::book, "56 0;", 2, 0);
    }

    @Says(in = 0, words = "had gone M miles (0 to 99) a day later")
    static void milesOfBooks(Check c) {
        right(c, Check::book, "0 0;1 99;", 2);
        faulty(c, Check::book, "0 100;", 2, 2);
    }

    // ---- numbers, words, blanks

    @Says(in = 0, words = "Numbers: digits, as many as stand there")
    static void anyNumberOfDigits(Check c) {
        right(c, Check::land, TWO + "road " + "0".repeat(200) + " " + "0".repeat(200) + "1 0040 06;", 2);
        c.due("length", 40, Made.with(TWO + "road 0 1 " + "0".repeat(100) + "40 0;").road(0, 2));
        String[] great = {"256", "65537", "4294967297", "8589934593", "18446744073709551617", "9".repeat(100), "1" + "0".repeat(64) + "1"};
        for (String number : great) {
            faulty(c, Check::land, TWO + "road 0 1 " + number + " 0;", 2, 19);
            faulty(c, Check::work, "turn " + number + ";", 2, 5);
        }
        // A word ends where a digit stands, and a number where a letter does.
        right(c, Check::land, TWO + "road0 1 1 0;carter0 0;", 2);
        faulty(c, Check::land, TWO + "road 0 1 1 0x;", 1, 22);
        faulty(c, Check::land, TWO + "road 0 1 1 6 ;town5;", 1, 28);
    }

    @Says(in = 0, words = "WORDS: small letters, as many as stand there")
    static void wholeWords(Check c) {
        for (String word : new String[] {"tow", "towns", "towntown", "xtown", "Town", "towN", "t", "carte", "carters", "roa", "roads", "load", "TOWN"}) {
            faulty(c, Check::land, "town; " + word + " 0;", 1, 6);
        }
        for (String word : new String[] {"se", "sets", "tur", "turns", "loa", "loads", "of", "offs", "hou", "hours", "agai", "agains", "town", "Set", "HOUR"}) {
            faulty(c, Check::work, "hour; " + word + " 0;", 1, 6);
        }
        for (String word : new String[] {"lengt", "lengths", "tire", "tireds", "loads", "man", "manys", "hou", "hours", "da", "days", "wee", "weeks",
            "roa", "roads", "leas", "leasts", "mos", "mosts", "town", "Day", "LOAD"}) {
            faulty(c, Check::law, "1+ " + word + "[1,2]", 1, 3);
        }
        // The signs next to the letters are no letters.
        faulty(c, Check::land, "town`;", 1, 4);
        faulty(c, Check::land, "town{;", 1, 4);
        faulty(c, Check::land, "`town;", 1, 0);
        faulty(c, Check::land, "{town;", 1, 0);
    }

    @Says(in = 0, words = "blanks (32) may stand ahead of all these, and at the end")
    static void blanksAreFree(Check c) {
        String[][] texts = {LANDS, LAWS, WORKS, BOOKS};
        Reading[] kinds = {Check::land, Check::law, Check::work, Check::book};
        int[] answers = {2, 1, 63, 2};
        for (int i = 0; i < texts.length; i++) {
            right(c, kinds[i], String.join(" ", texts[i]), answers[i]);
            right(c, kinds[i], " " + String.join(" ", texts[i]) + "  ", answers[i]);
            right(c, kinds[i], close(texts[i]), answers[i]);
        }
        // But none within.
        faulty(c, Check::land, "to wn;", 1, 0);
        faulty(c, Check::land, TWO + "road 0 1 4 0 0;", 1, 23);
        faulty(c, Check::law, "le ast[1,2]", 1, 0);
        faulty(c, Check::law, "1 0", 1, 2);
        faulty(c, Check::work, "ho ur;", 1, 0);
        faulty(c, Check::book, "0 1 0;", 1, 4);
    }

    /** With a blank only between two numbers, or where it would make one word of two. */
    private static String close(String[] tokens) {
        StringBuilder b = new StringBuilder();
        for (String t : tokens) {
            boolean number = b.length() > 0 && Character.isDigit(b.charAt(b.length() - 1)) && Character.isDigit(t.charAt(0));
            b.append(number ? " " : "").append(t);
        }
        return b.toString();
    }

    @Says(in = 0, words = "1 what can't stand there")
    static void otherBytesCantStand(Check c) {
        Reading[] kinds = {Check::land, Check::law, Check::work, Check::book};
        String[] texts = {"town;", "1", "hour;", "0 0;"};
        for (int i = 0; i < kinds.length; i++) {
            for (char b = 0; b < 256; b++) {
                boolean more = b >= '0' && b <= '9' || "+-*/%".indexOf(b) >= 0 && i == 1;
                if (b != ' ' && !(more && i % 2 == 1)) {
                    faulty(c, kinds[i], texts[i] + b, 1, texts[i].length());
                    faulty(c, kinds[i], " " + texts[i] + " " + b + ";", 1, texts[i].length() + 2);
                }
            }
        }
    }

    // ---- FAULTS

    @Says(in = 0, words = "FAULTS, the first from the left, at its first byte")
    static void theFirstFaultCounts(Check c) {
        faulty(c, Check::land, "town;town;road 0 1 41 7;x", 2, 19);
        faulty(c, Check::land, "town;x;road 0 0 41 7;", 1, 5);
        faulty(c, Check::land, "town;carter 1 100;", 2, 12);
        faulty(c, Check::law, "1000+)", 2, 0);
        faulty(c, Check::law, ")+1000", 1, 0);
        faulty(c, Check::work, "set 2 4;", 2, 4);
        faulty(c, Check::work, "off 9 9;hours", 2, 4);
        faulty(c, Check::book, "56 100", 2, 0);
        faulty(c, Check::book, "0 100 56", 2, 2);
        // At its first byte, however long it is.
        faulty(c, Check::land, "   towwwwwwn;", 1, 3);
        faulty(c, Check::law, "   01000", 2, 3);
    }

    @Says(in = 0, words = "(at the length, if the text ends too early)")
    static void textsThatEndTooEarly(Check c) {
        endsTooEarly(c, Check::land, LANDS, ";");
        endsTooEarly(c, Check::work, WORKS, ";");
        endsTooEarly(c, Check::book, BOOKS, ";");
        for (int n = 0; n < LAWS.length; n++) {
            String text = first(LAWS, n);
            if (n == 21) {
                right(c, Check::law, text, 1);
            } else {
                faulty(c, Check::law, text, 1, text.length());
                faulty(c, Check::law, text + "  ", 1, text.length() + 2);
            }
        }
    }

    private static String first(String[] tokens, int n) {
        return String.join(" ", java.util.Arrays.copyOf(tokens, n));
    }

    private static void endsTooEarly(Check c, Reading kind, String[] tokens, String end) {
        int open = 0;
        for (int n = 1; n < tokens.length; n++) {
            open += tokens[n - 1].equals("[") ? 1 : tokens[n - 1].equals("]") ? -1 : 0;
            String text = first(tokens, n);
            if (open > 0 || !tokens[n - 1].equals(end)) {
                faulty(c, kind, text, 1, text.length());
                faulty(c, kind, text + "  ", 1, text.length() + 2);
            }
        }
    }

    @Says(in = 0, words = "(B of road as A; an H twice in a BOOK)")
    static void toldTwice(Check c) {
        faulty(c, Check::land, TWO + "road 1  1 1 0;", 2, 18);
        faulty(c, Check::book, "55 1;0 1; 55 1;", 2, 10);
    }

    @Says(in = 0, words = "3 a CLAUSE, TOWN, ROAD or CARTER too many (at its word)")
    static void tooManyAtTheWord(Check c) {
        faulty(c, Check::land, "town;".repeat(7) + "  town", 3, 37);
        faulty(c, Check::land, TWO + "road 0 1 1 0;".repeat(12) + " road 9 9 99 9", 3, 167);
        faulty(c, Check::land, "town;" + "carter 0 0;".repeat(5) + " carter 9 999", 3, 61);
        // A word that is none comes ahead of that.
        faulty(c, Check::land, "town;".repeat(7) + "towns", 1, 35);
    }

    @Says(in = 0, words = "a 7th line of a BOOK (at its H)")
    static void seventhLine(Check c) {
        faulty(c, Check::book, "9 0;8 0;7 0;6 0;5 0;4 0; 3", 3, 25);
        faulty(c, Check::book, "9 0;8 0;7 0;6 0;5 0;4 0;3 100;", 3, 24);
        // Without an H there is no line, only what can't stand.
        faulty(c, Check::book, "9 0;8 0;7 0;6 0;5 0;4 0; x", 1, 25);
        faulty(c, Check::book, "9 0;8 0;7 0;6 0;5 0;4 0;;", 1, 24);
        right(c, Check::book, "9 0;8 0;7 0;6 0;5 0;4 0;  ", 6);
    }

    @Says(in = 0, words = "or a 7th of ( least most again that is open at one time")
    static void sevenOpenAtOneTime(Check c) {
        String[] opening = {"(", "least[", "most["};
        String[] closing = {")", ",1]", ",1]"};
        for (int i = 0; i < 3; i++) {
            String six = opening[i].repeat(6) + "1" + closing[i].repeat(6);
            right(c, Check::law, six, 1);
            right(c, Check::law, six + "+" + opening[i].repeat(2) + "1" + closing[i].repeat(2), 1);
            for (int k = 0; k < 3; k++) {
                faulty(c, Check::law, opening[i].repeat(6) + opening[k] + "1", 3, opening[i].length() * 6);
                faulty(c, Check::law, opening[i].repeat(5) + opening[k] + "1+" + opening[i], 3, opening[i].length() * 5 + opening[k].length() + 2);
            }
        }
        // Also behind the comma, where as many are open.
        right(c, Check::law, "least[1,(((((1)))))]", 1);
        faulty(c, Check::law, "least[1,((((((1))))))]", 3, 13);
        faulty(c, Check::law, "most[(1),((((((1))))))]", 3, 14);
        right(c, Check::work, "again 1[".repeat(6) + "hour;" + "];".repeat(6), 1);
        faulty(c, Check::work, "again 1[".repeat(7) + "hour;" + "];".repeat(7), 3, 48);
        right(c, Check::work, "again 1[".repeat(5) + "again 1[];again 1[hour;];" + "];".repeat(5), 1);
        right(c, Check::work, "again 1[];".repeat(9), 0);
        // It lies at the word, whatever comes behind.
        faulty(c, Check::work, "again 1[".repeat(6) + " again 61", 3, 49);
        faulty(c, Check::law, "((((((least", 3, 6);
    }

    @Says(in = 0, words = "of one the least")
    static void ofTwoKindsAtOnePlaceTheLeast(Check c) {
        String six = "0 0;1 0;2 0;3 0;4 0;5 0;";
        faulty(c, Check::book, six + "5 0;", 2, 24);
        faulty(c, Check::book, six + "56 0;", 2, 24);
        faulty(c, Check::book, six + "6 0;", 3, 24);
    }
}
