/** For each promise of the document: ordinary calls, the edges it names, wrong calls. */
public final class PromiseTest {
    private static final Check CHECK = new Check();

    /** Towns 0 1 2 3; roads 0-1, 1-2, 0-2, 2-3; two carters. */
    private static final String LAND = "town;town;town;town;road 0 1 6 0;road 1 2 4 1;road 0 2 12 3;road 2 3 2 0;carter 0 10;carter 2 5;";

    public static void main(String[] args) {
        p1New();
        p2Feed();
        p3Land();
        p3LandFaults();
        p4Law();
        p4LawFaults();
        p5Work();
        p5WorkSteps();
        p5WorkFaults();
        p5WorkLimits();
        p6Book();
        p7Fault();
        p8Undo();
        p9Told();
        p10Town();
        p11Road();
        p12Carter();
        p13Would();
        p14Lasts();
        p15Soon();
        p16Way();
        p17Latest();
        p18Day();
        p19Farthest();
        p20Joined();
        p21Part();
        p22Mend();
        p23Picnic();
        p24Fits();
        p25Look();
        p26Inn();
        p27Luck();
        p28Oats();
        p29Weariest();
        p30Arrives();
        p31Reach();
        p32Year();
        p33Span();
        p34Image();
        p35Restore();
        p36Status();
        p37Count();
        CHECK.end("PromiseTest");
    }

    private static void due(String what, long want, long got) {
        CHECK.due(what, want, got);
    }

    private static RoadHolidays with(String land) {
        RoadHolidays x = new RoadHolidays();
        Check.land(x, land);
        return x;
    }

    private static String times(String text, int n) {
        return text.repeat(n);
    }

    private static void p1New() {
        due("NONE", -1, RoadHolidays.NONE);
        RoadHolidays x = new RoadHolidays();
        for (int what = 0; what <= 11; what++) {
            due("new told " + what, 0, x.told(what));
        }
        due("new fault", -1, x.fault());
        due("new undo", -1, x.undo());
        due("new restore", -1, x.restore());
        for (int what = 0; what <= 2; what++) {
            due("new count " + what, 0, x.count(what));
        }
        due("new status", 0, x.status(0) + x.status(1));
        due("new would", 2, x.would(7, 1, 1, 1, 1, 1, 1, 1));
    }

    private static void p2Feed() {
        RoadHolidays x = new RoadHolidays();
        for (int i = 1; i <= 30; i++) {
            due("feed " + i, 20 * i, x.feed(0x746f776e, 0x3b202020, 0x20202020, 0x20202020, 0x20202020));
        }
        due("feed too much", -1, x.feed(0, 0, 0, 0, 0));
        due("tape full", 600, x.count(1));
        due("town by feed", 1, x.land(20));
        due("tape empty", 0, x.count(1));
        due("feed anew", 20, x.feed(1, 2, 3, 4, 5));
        // The highest byte comes first, whatever the sign of the number.
        RoadHolidays y = new RoadHolidays();
        y.feed(0xff000000, 0, 0, 0, 0);
        due("byte 255 can't stand", -9, y.land(20));
        due("byte 255 stands first", 0, y.fault());
        y.feed(0x20202020, 0x202020ff, 0, 0, 0);
        y.land(8);
        due("byte 255 stands last", 7, y.fault());
    }

    private static void p3Land() {
        RoadHolidays x = new RoadHolidays();
        due("land", 4, Check.land(x, LAND));
        due("roads", 4, x.told(1));
        due("carters", 2, x.told(2));
        due("blanks", 2, Check.land(x, "  town ;town;  road0 1 0040 06 ;carter  1 099;   "));
        due("length", 40, x.road(0, 2));
        due("off", 6, x.road(0, 3));
        due("load", 99, x.carter(0, 3));
        due("empty", 0, Check.land(x, ""));
        due("blanks alone", 0, Check.land(x, "    "));
        due("seven towns", 7, Check.land(x, times("town;", 7)));
        String full = times("town;", 7) + times("road 5 6 40 6;", 12) + times("carter 6 99;", 5);
        due("full", 7, Check.land(x, full));
        due("full roads", 12, x.told(1));
        due("full carters", 5, x.told(2));
        x.feed(0x746f776e, 0x3b746f77, 0x6e3b0000, 0, 0);
        CHECK.wrongArgument("land(21)", () -> x.land(21));
        CHECK.wrongArgument("land(-1)", () -> x.land(-1));
        due("tape stays", 20, x.count(1));
        due("first bytes", 1, x.land(5));
        due("all gone", 0, x.count(1));
        // What belongs to a land goes with it, unless the new one has a fault.
        Check.land(x, LAND);
        Check.law(x, "5");
        Check.book(x, "0 1;");
        Check.work(x, "hour;turn 0;");
        x.image();
        due("faulty", -9, Check.land(x, "town"));
        due("law stays", 5, x.road(0, 7));
        due("book stays", 1, x.told(9));
        due("hour stays", 1, x.told(3));
        due("refused stays", 1, x.told(10));
        due("works stay", 1, x.count(2));
        due("images stay", 1, x.count(0));
        due("right", 4, Check.land(x, LAND));
        due("law gone", 2, x.road(0, 7));
        due("book gone", 0, x.told(9));
        due("hour gone", 0, x.told(3));
        due("refused gone", 0, x.told(10));
        due("works gone", 0, x.count(2));
        due("images gone", 0, x.count(0));
    }

    private static void landFault(String text, int kind, int at) {
        RoadHolidays x = new RoadHolidays();
        due("land '" + text + "'", kind - 10, Check.land(x, text));
        due("land fault '" + text + "'", at, x.fault());
        due("tape '" + text + "'", 0, x.count(1));
    }

    private static void p3LandFaults() {
        landFault("town", 1, 4);
        landFault("town   ", 1, 7);
        landFault("  towns;", 1, 2);
        landFault("Town;", 1, 0);
        landFault("townz;", 1, 0);
        landFault("towna;", 1, 0);
        landFault("town{;", 1, 4);
        landFault("town`;", 1, 4);
        landFault("town0;", 1, 4);
        landFault("town;;", 1, 5);
        landFault("town 0;", 1, 5);
        landFault("town;5", 1, 5);
        landFault("town;town;road 0 1 1;", 1, 20);
        landFault("town;town;road 0 1 1 0", 1, 22);
        landFault("town;town;road 0 1x1 0;", 1, 18);
        landFault("town;town;road 0 -1 1 0;", 1, 17);
        landFault("road 0 1 1 0;", 2, 5);
        landFault("town;town;road 0 2 1 0;", 2, 17);
        landFault("town;town;road 0  00 1 0;", 2, 18);
        landFault("town;town;road 0 1 0 0;", 2, 19);
        landFault("town;town;road 0 1 41 0;", 2, 19);
        landFault("town;town;road 0 1/1 0;", 1, 18);
        landFault("town;town;road 0 1:1 0;", 1, 18);
        landFault("town;town;road 0 1 40 7;", 2, 22);
        landFault("town;town;road 0 1 4294967297 0;", 2, 19);
        landFault("carter 0 0;town;", 2, 7);
        landFault("town;carter 0 100;", 2, 14);
        landFault(times("town;", 7) + "  town", 3, 37);
        landFault(times("town;", 7) + "towns", 1, 35);
        landFault("town;town;" + times("road 0 1 1 0;", 12) + "road 9", 3, 166);
        landFault("town;" + times("carter 0 0;", 5) + "carter x", 3, 60);
    }

    private static void law(String text, int want, int... given) {
        RoadHolidays x = new RoadHolidays();
        due("law '" + text + "'", 1, Check.law(x, text));
        int[] g = given.length == 8 ? given : new int[] {12, 30, 200, 3, 7, 5, 80, 11};
        due("pace '" + text + "'", want, x.would(g[0], g[1], g[2], g[3], g[4], g[5], g[6], g[7]));
    }

    private static void p4Law() {
        law("7", 7);
        law("10", 9);
        law("0-1", 0);
        law(" 0009 ", 9);
        law("length-5", 7);
        law("tired-25", 5);
        law("load/50", 4);
        law("many", 3);
        law("hour", 7);
        law("day", 5);
        law("week/10", 8);
        law("road-9", 2);
        law("5-4+3", 4);
        law("8/4*3%4", 2);
        law("2*3%4", 2);
        law("2+3*2", 8);
        law("(2+3)*2-3", 7);
        law("9-4-3", 2);
        law("8/4/2", 1);
        law("17%9%5", 3);
        law("5+(0-7)/2", 2);
        law("5+(0-7)%4", 2);
        law("3+5/0", 3);
        law("3+5%0", 3);
        law("5%(many-3)+4", 4);
        law("least[4,6]+most [ 1 , 2 ]", 6);
        law("least[0-4,6]+7", 3);
        law("((((((4))))))", 4);
        law("least[most[least[most[least[most[5,1],9],2],3],9],1]", 1);
        law("(1)+(1)+(1)+(1)+(1)+(1)+(1)+(1)", 8);
        // 2 to the 31st wraps below 0, and divided by -1 it stays there.
        law("512*512*512*16", 0);
        law("512*512*512*16/(0-1)", 0);
        law("0-(512*512*512*16-1)/512/512/512/4", 0);
        law("(512*512*512*16-1)/512/512/512/4", 3);
        law("512*512*512*16%(0-1)+6", 6);
        RoadHolidays x = new RoadHolidays();
        Check.law(x, "3");
        due("faulty law", -9, Check.law(x, "4 4"));
        due("law stays", 3, x.would(1, 0, 0, 0, 0, 0, 0, 0));
        for (int i = 0; i < 8; i++) {
            Check.feed(x, times(" ", 19) + "8");
        }
        CHECK.wrongArgument("law(151)", () -> x.law(151));
        CHECK.wrongArgument("law(-1)", () -> x.law(-1));
        due("tape stays", 160, x.count(1));
        x.law(20);
        due("law by first bytes", 8, x.would(1, 0, 0, 0, 0, 0, 0, 0));
        x.feed(0, 0, 0, 0, 0);
        CHECK.wrongArgument("law(21)", () -> x.law(21));
    }

    private static void lawFault(String text, int kind, int at) {
        RoadHolidays x = new RoadHolidays();
        due("law '" + text + "'", kind - 10, Check.law(x, text));
        due("law fault '" + text + "'", at, x.fault());
        due("law tape '" + text + "'", 0, x.count(1));
    }

    private static void p4LawFaults() {
        lawFault("", 1, 0);
        lawFault("   ", 1, 3);
        lawFault("load+", 1, 5);
        lawFault("load+ ", 1, 6);
        lawFault("-1", 1, 0);
        lawFault("1 2", 1, 2);
        lawFault("1)", 1, 1);
        lawFault("(1", 1, 2);
        lawFault("(1]", 1, 2);
        lawFault("weeks", 1, 0);
        lawFault("town", 1, 0);
        lawFault("least 5", 1, 6);
        lawFault("least(1,2)", 1, 5);
        lawFault("least[1]", 1, 7);
        lawFault("least[1,2,3]", 1, 9);
        lawFault("most[1,2)", 1, 8);
        lawFault("1;", 1, 1);
        lawFault("1000", 2, 0);
        lawFault("1+ 99999999999999999999 *", 2, 3);
        lawFault("(((((((1", 3, 6);
        lawFault("(((((( (", 3, 7);
        lawFault("((((((least x", 3, 6);
        lawFault("((((((1+most", 3, 8);
        lawFault("least[(((((1+leas", 1, 13);
        lawFault("least[1,(((((most", 3, 13);
    }

    private static void p5Work() {
        RoadHolidays x = with(LAND);
        due("empty work", 0, Check.work(x, ""));
        due("it counts", 1, x.count(2));
        due("work", 3, Check.work(x, "set 0 2; hour ;hour;"));
        due("hour", 2, x.told(3));
        due("gone", 4, x.carter(0, 2));
        due("again", 6, Check.work(x, "again 3 [ hour ; hour ; ] ;"));
        due("again hour", 8, x.told(3));
        due("there", -1, x.carter(0, 1));
        due("again 0", 0, Check.work(x, "again 0[hour;];"));
        due("none passed", 8, x.told(3));
        x.feed(0, 0, 0, 0, 0);
        CHECK.wrongArgument("work(21)", () -> x.work(21));
        CHECK.wrongArgument("work(-1)", () -> x.work(-1));
        due("tape stays", 20, x.count(1));
        for (int i = 0; i < 8; i++) {
            x.feed(0, 0, 0, 0, 0);
        }
        CHECK.wrongArgument("work(151)", () -> x.work(151));
        due("tape stays", 180, x.count(1));
        due("works stay", 4, x.count(2));
    }

    private static void p5WorkSteps() {
        RoadHolidays x = with(LAND);
        due("no such road from there", 0, Check.work(x, "set 0 1;"));
        due("refused", 1, x.told(10));
        due("in town", 0, Check.work(x, "turn 0;"));
        due("same load", 0, Check.work(x, "load 0 10;"));
        due("same day off", 0, Check.work(x, "off 0 0;"));
        due("set, set", 1, Check.work(x, "set 0 0;set 0 2;"));
        due("refused one", 1, x.told(10));
        due("other load, day off", 2, Check.work(x, "load 0 11;off 0 6;"));
        due("none refused", 0, x.told(10));
        due("goes at once", 1, Check.work(x, "hour;"));
        due("two miles", 2, x.carter(0, 2));
        due("turn", 1, Check.work(x, "turn 0;"));
        due("four gone", 4, x.carter(0, 2));
        due("toward 0", 0, x.carter(0, 0));
        due("from 1", 1, x.carter(0, 4));
        due("arrives", 1, Check.work(x, "hour;"));
        due("in 0", 0, x.carter(0, 0));
        due("on none", -1, x.carter(0, 1));
        due("none gone", 0, x.carter(0, 2));
        due("came", 1, x.told(11));
        // Turned with no mile gone he has gone all of it, but needs an hour in which the road goes.
        due("set, turn", 2, Check.work(x, "set 0 2;turn 0;"));
        due("all gone", 12, x.carter(0, 2));
        due("still on it", 2, x.carter(0, 1));
        due("turned twice", 1, Check.work(x, "turn 0;"));
        due("none gone", 0, x.carter(0, 2));
        due("rests", 3, Check.work(x, "turn 0;off 2 0;hour;"));
        due("not there yet", 2, x.carter(0, 1));
        due("goes", 2, Check.work(x, "off 2 5;hour;"));
        due("there", -1, x.carter(0, 1));
        due("there in 0", 0, x.carter(0, 0));

        // The pace of an hour is asked ahead of it, for all carters on the road alike.
        RoadHolidays y = with("town;town;road 0 1 9 6;road 0 1 9 0;carter 0 3;carter 1 1;carter 0 0;");
        Check.law(y, "many+load+tired");
        due("three on it", 4, Check.work(y, "set 0 0;set 1 0;set 2 0;hour;"));
        due("seven miles", 7, y.carter(2, 2));
        due("tired", 1, y.road(0, 4));
        due("pace then", 8, y.road(0, 6));
        due("all come", 1, Check.work(y, "hour;"));
        due("came three", 3, y.told(11));
        due("tired by two", 2, y.road(0, 4));
        due("nobody on it", 1, Check.work(y, "hour;"));
        due("as tired", 2, y.road(0, 4));
        due("till day 6", 45, Check.work(y, "again 45[hour;];"));
        due("still tired", 2, y.road(0, 4));
        due("rested", 1, Check.work(y, "hour;"));
        due("not tired", 0, y.road(0, 4));
    }

    private static void workFault(String text, int kind, int at) {
        RoadHolidays x = with(LAND);
        Check.work(x, "turn 0;");
        due("work '" + text + "'", kind - 10, Check.work(x, text));
        due("work fault '" + text + "'", at, x.fault());
        due("work tape '" + text + "'", 0, x.count(1));
        due("work not done '" + text + "'", 0, x.told(3));
        due("refused stays '" + text + "'", 1, x.told(10));
        due("works stay '" + text + "'", 1, x.count(2));
    }

    private static void p5WorkFaults() {
        workFault("hour;hour", 1, 9);
        workFault("hour;hours;", 1, 5);
        workFault("hour;;", 1, 5);
        workFault("hour;]", 1, 5);
        workFault("hour;town;", 1, 5);
        workFault("hour 1;", 1, 5);
        workFault("hour;turn;", 1, 9);
        workFault("set 0;", 1, 5);
        workFault("set 2 0;", 2, 4);
        workFault("set 0 4;", 2, 6);
        workFault("turn 2;", 2, 5);
        workFault("load 2 0;", 2, 5);
        workFault("load 0 100;", 2, 7);
        workFault("off 4 0;", 2, 4);
        workFault("off 0 7;", 2, 6);
        workFault("again 61[];", 2, 6);
        workFault("again [];", 1, 6);
        workFault("again 1 hour;", 1, 8);
        workFault("again 1[hour];", 1, 12);
        workFault("again 1[hour;]", 1, 14);
        workFault("again 1[hour;", 1, 13);
        workFault(times("again 1[", 6) + " again", 3, 49);
        workFault(times("again 1[", 6) + "agains", 1, 48);
        workFault(times("again 1[", 6) + "hour;];again", 1, 60);
    }

    private static void p5WorkLimits() {
        RoadHolidays x = with(LAND);
        due("six deep", 1, Check.work(x, times("again 1[", 6) + "hour;" + times("];", 6)));
        // The again is one of the 200 that are begun.
        due("199 hours", 199, Check.work(x, "again 60[hour;hour;hour;hour;];hour;"));
        due("hour 200", 200, x.told(3));
        // Each time an again is come to it is begun anew: 1 + 60 * 2 + 79.
        due("inner agains", 60, Check.work(x, "again 60[again 1[hour;];];again 60[turn 0;turn 0;];"));
        due("refused ones are begun", 78, x.told(10));
        due("empty agains", 0, Check.work(x, "again 60[again 60[again 60[];];];hour;"));
        due("1 + 60 + 139 agains leave no hour", 260, x.told(3));
        due("emptiness ends", 1, Check.work(x, "again 60[again 60[];];hour;"));
        due("none left out", 200, Check.work(with(LAND), times("hour;", 20) + "again 60[hour;hour;hour;];") + 1);
        RoadHolidays y = with(LAND);
        for (int i = 1; i <= 16; i++) {
            due("work " + i, 199, Check.work(y, "again 60[hour;hour;hour;hour;];turn 0;"));
            due("hour " + i, 199 * i, y.told(3));
        }
        Check.feed(y, "hour;");
        CHECK.wrongArgument("work(21)", () -> y.work(21));
        due("work 17", -20, y.work(5));
        due("tape", 0, y.count(1));
        due("no hour", 199 * 16, y.told(3));
        due("faulty 17", -20, Check.work(y, "hours"));
        due("no fault", -1, y.fault());
        Check.law(y, "x");
        due("fault of law", 0, y.fault());
        due("work 17 again", -20, Check.work(y, ""));
        due("no fault any more", -1, y.fault());
        due("undo", 15, y.undo());
        due("work 16", 1, Check.work(y, "hour;"));
    }

    private static void p6Book() {
        RoadHolidays x = with(LAND);
        due("book", 2, Check.book(x, "0 6; 055 099 ;"));
        due("lines", 2, x.told(9));
        due("six lines", 6, Check.book(x, "0 0;1 0;2 0;3 0;4 0;5 0;"));
        due("empty book", 0, Check.book(x, " "));
        due("no line", 0, x.told(9));
        Check.book(x, "3 3;");
        bookFault(x, "0", 1, 1);
        bookFault(x, "0;", 1, 1);
        bookFault(x, "0 1", 1, 3);
        bookFault(x, "0 1,", 1, 3);
        bookFault(x, "hour 1;", 1, 0);
        bookFault(x, "56 0;", 2, 0);
        bookFault(x, "0 100;", 2, 2);
        bookFault(x, "0 1;1 1; 00 100;", 2, 9);
        bookFault(x, "0 0;1 0;2 0;3 0;4 0;5 0;6 x", 3, 24);
        bookFault(x, "0 0;1 0;2 0;3 0;4 0;5 0; 5 0;", 2, 25);
        bookFault(x, "0 0;1 0;2 0;3 0;4 0;5 0; 56 0;", 2, 25);
        bookFault(x, "0 0;1 0;2 0;3 0;4 0;5 0;;", 1, 24);
        for (int i = 0; i < 4; i++) {
            Check.feed(x, times(" ", 20));
        }
        CHECK.wrongArgument("book(61)", () -> x.book(61));
        CHECK.wrongArgument("book(-1)", () -> x.book(-1));
        due("tape stays", 80, x.count(1));
        due("60 blanks", 0, x.book(60));
    }

    private static void bookFault(RoadHolidays x, String text, int kind, int at) {
        due("book '" + text + "'", kind - 10, Check.book(x, text));
        due("book fault '" + text + "'", at, x.fault());
        due("book stays '" + text + "'", 1, x.told(9));
        due("book tape '" + text + "'", 0, x.count(1));
    }

    private static void p7Fault() {
        RoadHolidays x = with(LAND);
        due("none", -1, x.fault());
        Check.work(x, "hour;hours;");
        due("of work", 5, x.fault());
        Check.thrownBy(() -> x.law(1));
        due("no text was read", 5, x.fault());
        x.feed(0, 0, 0, 0, 0);
        due("nor by feed", 5, x.fault());
        x.undo();
        x.image();
        x.restore();
        due("nor by others", 5, x.fault());
        Check.thrownBy(() -> x.land(0));
        due("a right one", -1, x.fault());
        Check.law(x, "1+");
        due("of law", 2, x.fault());
        Check.law(x, "1");
        due("right law", -1, x.fault());
    }

    private static void p8Undo() {
        RoadHolidays x = with(LAND);
        Check.work(x, "set 0 2;hour;");
        Check.work(x, "turn 0;load 0 9;off 2 6;hour;turn 0;");
        Check.work(x, "");
        Check.work(x, "turn 1;");
        due("all refused", 1, x.told(10));
        due("undo refused", 3, x.undo());
        due("refused none", 0, x.told(10));
        due("undo empty", 2, x.undo());
        due("came", 1, x.told(11));
        Check.law(x, "9");
        due("undo turn", 1, x.undo());
        due("came none", 0, x.told(11));
        due("gone", 2, x.carter(0, 2));
        due("to", 2, x.carter(0, 0));
        due("from", 0, x.carter(0, 4));
        due("load", 10, x.carter(0, 3));
        due("off", 3, x.road(2, 3));
        due("tired", 1, x.road(2, 4));
        due("law stays", 9, x.road(2, 7));
        due("undo first", 0, x.undo());
        due("hour", 0, x.told(3));
        due("on none", -1, x.carter(0, 1));
        due("tired none", 0, x.road(2, 4));
        due("none left", -1, x.undo());
    }

    private static void p9Told() {
        RoadHolidays x = with(LAND);
        int[] first = {4, 4, 2, 0, 0, 0, 0, 0, 9, 0, 0, 0};
        for (int what = 0; what <= 11; what++) {
            due("told " + what, first[what], x.told(what));
        }
        Check.work(x, "set 1 3;again 60[hour;];turn 0;set 1 3;turn 0;hour;hour;hour;hour;");
        Check.book(x, "1 1;2 2;");
        int[] then = {4, 4, 2, 64, 0, 1, 1, 2, 2, 2, 2, 1};
        for (int what = 0; what <= 11; what++) {
            due("told then " + what, then[what], x.told(what));
        }
        CHECK.wrongArgument("told(12)", () -> x.told(12));
        CHECK.wrongArgument("told(-1)", () -> x.told(-1));
    }

    private static void p10Town() {
        RoadHolidays x = with(LAND);
        due("roads from 0", 5, x.town(0, 0));
        due("roads from 1", 3, x.town(1, 0));
        due("roads from 2", 14, x.town(2, 0));
        due("carters in 0", 1, x.town(0, 1));
        due("carters in 1", 0, x.town(1, 1));
        due("carters in 2", 2, x.town(2, 1));
        Check.work(x, "set 1 3;");
        due("he left", 0, x.town(2, 1));
        due("not there", 0, x.town(3, 1));
        CHECK.noSuch("town(4, 0)", () -> x.town(4, 0));
        CHECK.noSuch("town(-1, 9)", () -> x.town(-1, 9));
        CHECK.wrongArgument("town(0, 2)", () -> x.town(0, 2));
        CHECK.wrongArgument("town(0, -1)", () -> x.town(0, -1));
    }

    private static void p11Road() {
        RoadHolidays x = with(LAND);
        Check.law(x, "length/3+tired+many*2+hour+day+week+load/10-road");
        int[] first = {2, 3, 2, 0, 0, 0, 0, 0};
        for (int what = 0; what <= 7; what++) {
            due("road 3 " + what, first[what], x.road(3, what));
        }
        due("plain", 2, x.road(2, 7));
        due("now", 2, x.road(2, 6));
        Check.work(x, "set 0 2;");
        due("with one", 5, x.road(2, 6));
        due("plain still", 2, x.road(2, 7));
        due("carters", 1, x.road(2, 5));
        Check.work(x, "hour;turn 0;off 2 5;");
        due("off", 5, x.road(2, 3));
        due("tired", 1, x.road(2, 4));
        due("an hour later", 7, x.road(2, 6));
        Check.work(x, "off 2 0;");
        due("rests", 0, x.road(2, 6));
        due("plain on others", 2, x.road(2, 7));
        CHECK.noSuch("road(4, 8)", () -> x.road(4, 8));
        CHECK.noSuch("road(-1, 0)", () -> x.road(-1, 0));
        CHECK.wrongArgument("road(0, 8)", () -> x.road(0, 8));
        CHECK.wrongArgument("road(0, -1)", () -> x.road(0, -1));
    }

    private static void p12Carter() {
        RoadHolidays x = with(LAND);
        int[] first = {2, -1, 0, 5, 2};
        for (int what = 0; what <= 4; what++) {
            due("carter 1 " + what, first[what], x.carter(1, what));
        }
        Check.work(x, "set 1 2;hour;load 1 7;");
        int[] then = {0, 2, 2, 7, 2};
        for (int what = 0; what <= 4; what++) {
            due("carter 1 on a road " + what, then[what], x.carter(1, what));
        }
        Check.work(x, "again 5[hour;];");
        int[] there = {0, -1, 0, 7, 2};
        for (int what = 0; what <= 4; what++) {
            due("carter 1 there " + what, there[what], x.carter(1, what));
        }
        CHECK.noSuch("carter(2, 5)", () -> x.carter(2, 5));
        CHECK.noSuch("carter(-1, 0)", () -> x.carter(-1, 0));
        CHECK.wrongArgument("carter(0, 5)", () -> x.carter(0, 5));
        CHECK.wrongArgument("carter(0, -1)", () -> x.carter(0, -1));
    }

    private static void p13Would() {
        RoadHolidays x = new RoadHolidays();
        int[] least = {1, 0, 0, 0, 0, 0, 0, 0};
        int[] most = {40, 999, 495, 5, 7, 6, 100, 11};
        for (int i = 0; i < 8; i++) {
            for (int step = -1; step <= 1; step += 2) {
                int[] g = {20, 20, 20, 2, 2, 2, 20, 2};
                g[i] = step < 0 ? least[i] : most[i];
                due("edge " + i, 2, would(x, g));
                g[i] += step;
                CHECK.wrongArgument("beyond " + i, () -> would(x, g));
            }
        }
        due("refused once each", 16, x.status(1));
        Check.law(x, "length+tired");
        due("nine at most", 9, x.would(5, 5, 0, 0, 0, 0, 0, 0));
        due("not kept", 9, x.would(8, 1, 0, 0, 0, 0, 0, 0));
    }

    private static int would(RoadHolidays x, int[] g) {
        return x.would(g[0], g[1], g[2], g[3], g[4], g[5], g[6], g[7]);
    }

    private static void p14Lasts() {
        RoadHolidays x = with(LAND);
        due("rests first", 11, x.lasts(0, 0));
        due("goes at once", 3, x.lasts(0, 8));
        due("rests between", 10, x.lasts(1, 7));
        due("at the week's end", 1 + 8 + 2, x.lasts(0, 55));
        due("last hour", 11, x.lasts(0, 5600));
        Check.work(x, "off 0 3;");
        due("day off of now", 3, x.lasts(0, 0));
        Check.law(x, "tired+hour+day+week");
        due("never", -1, x.lasts(0, 0));
        Check.law(x, "1");
        RoadHolidays y = with("town;town;road 0 1 40 2;");
        Check.law(y, "1");
        due("longest", 48, y.lasts(0, 0));
        CHECK.noSuch("lasts(4, -1)", () -> x.lasts(4, -1));
        CHECK.noSuch("lasts(-1, 0)", () -> x.lasts(-1, 0));
        CHECK.wrongArgument("lasts(0, -1)", () -> x.lasts(0, -1));
        CHECK.wrongArgument("lasts(0, 5601)", () -> x.lasts(0, 5601));
    }

    private static void p15Soon() {
        RoadHolidays x = with(LAND);
        due("round about", 8, x.soon(0, 1, 0));
        due("straight", 3, x.soon(0, 1, 8 + 8));
        due("itself", 0, x.soon(3, 3, 5600));
        due("waits for the road", 9, x.soon(2, 3, 0));
        Check.law(x, "1-road");
        due("by road 0 alone", -1, x.soon(0, 2, 8));
        due("one way", 6, x.soon(1, 0, 8));
        CHECK.noSuch("soon(4, 0, -1)", () -> x.soon(4, 0, -1));
        CHECK.noSuch("soon(0, -1, 0)", () -> x.soon(0, -1, 0));
        CHECK.wrongArgument("soon(0, 0, -1)", () -> x.soon(0, 0, -1));
        CHECK.wrongArgument("soon(0, 1, 5601)", () -> x.soon(0, 1, 5601));
    }

    private static void p16Way() {
        RoadHolidays x = with(LAND);
        due("many", 3, x.way(3, 1, 0, 0));
        due("first", 3, x.way(3, 1, 0, 1));
        due("last", 0, x.way(3, 1, 0, 2));
        due("itself", 0, x.way(1, 1, 0, 0));
        due("itself first", -1, x.way(1, 1, 0, 1));
        due("itself last", -1, x.way(1, 1, 0, 2));
        // Two ways take as long: the least last road wins, and ahead of it the least again.
        RoadHolidays y = with("town;town;town;road 0 2 8 6;road 1 2 4 6;road 0 1 4 6;road 1 0 4 6;town;road 2 3 2 6;");
        due("of alike ones the least", 0, y.way(0, 2, 0, 2));
        due("one road", 1, y.way(0, 2, 0, 0));
        due("behind it", 2, y.way(0, 3, 0, 0));
        due("first of them", 0, y.way(0, 3, 0, 1));
        due("twins", 2, y.way(0, 1, 0, 2));
        Check.law(y, "0");
        due("no way", -1, y.way(0, 2, 0, 0));
        due("no first", -1, y.way(0, 2, 0, 1));
        due("no last", -1, y.way(0, 2, 0, 2));
        CHECK.noSuch("way(4, 0, 0, 9)", () -> x.way(4, 0, 0, 9));
        CHECK.noSuch("way(0, 4, 0, 0)", () -> x.way(0, 4, 0, 0));
        CHECK.wrongArgument("way(0, 0, 0, 3)", () -> x.way(0, 0, 0, 3));
        CHECK.wrongArgument("way(0, 0, 0, -1)", () -> x.way(0, 0, 0, -1));
        CHECK.wrongArgument("way(0, 0, 5601, 0)", () -> x.way(0, 0, 5601, 0));
        CHECK.wrongArgument("way(0, 0, -1, 0)", () -> x.way(0, 0, -1, 0));
    }

    private static void p17Latest() {
        RoadHolidays x = with(LAND);
        due("latest", 9, x.latest(0, 1, 0, 12));
        due("just", 0, x.latest(0, 1, 0, 8));
        due("not within", -1, x.latest(0, 1, 0, 7));
        due("itself", 200, x.latest(2, 2, 5600, 200));
        due("itself at once", 0, x.latest(2, 2, 0, 0));
        due("other at once", -1, x.latest(2, 1, 0, 0));
        Check.law(x, "0");
        due("never", -1, x.latest(0, 1, 0, 200));
        CHECK.noSuch("latest(4, 0, 0, 0)", () -> x.latest(4, 0, 0, 0));
        CHECK.noSuch("latest(0, 4, 0, 999)", () -> x.latest(0, 4, 0, 999));
        CHECK.wrongArgument("latest(0, 0, 0, 201)", () -> x.latest(0, 0, 0, 201));
        CHECK.wrongArgument("latest(0, 0, 0, -1)", () -> x.latest(0, 0, 0, -1));
        CHECK.wrongArgument("latest(0, 0, -1, 0)", () -> x.latest(0, 0, -1, 0));
        CHECK.wrongArgument("latest(0, 0, 5601, 0)", () -> x.latest(0, 0, 5601, 0));
    }

    private static void p18Day() {
        RoadHolidays x = with(LAND);
        due("best day", 1, x.day(0, 1, 0));
        due("soon then", 3, x.day(0, 1, 1));
        due("round about is sooner on day 2", 2, x.day(0, 2, 0));
        due("by five hours", 5, x.day(0, 2, 1));
        due("itself", 0, x.day(3, 3, 0));
        due("itself soon", 0, x.day(3, 3, 1));
        Check.work(x, "hour;");
        due("next morning", 1, x.day(3, 3, 0));
        due("of alike ones the first", 1, x.day(0, 1, 0));
        Check.work(x, "again 52[hour;];");
        due("of next week", 0, x.day(3, 3, 0));
        due("the second of them", 1, x.day(0, 1, 0));
        Check.law(x, "0");
        due("no way", -1, x.day(0, 1, 0));
        due("no soon", -1, x.day(0, 1, 1));
        CHECK.noSuch("day(4, 0, 2)", () -> x.day(4, 0, 2));
        CHECK.noSuch("day(0, -1, 0)", () -> x.day(0, -1, 0));
        CHECK.wrongArgument("day(0, 0, 2)", () -> x.day(0, 0, 2));
        CHECK.wrongArgument("day(0, 0, -1)", () -> x.day(0, 0, -1));
    }

    private static void p19Farthest() {
        RoadHolidays x = with(LAND);
        due("from", 3, x.farthest(0));
        due("to", 1, x.farthest(1));
        due("soon", 18, x.farthest(2));
        Check.work(x, "again 16[hour;];");
        due("of alike ones the first", 0, x.farthest(0));
        due("to then", 3, x.farthest(1));
        due("soon then", 6, x.farthest(2));
        Check.law(x, "1-road");
        due("by road 0 from", 0, x.farthest(0));
        due("by road 0 to", 1, x.farthest(1));
        Check.law(x, "0");
        for (int what = 0; what <= 2; what++) {
            due("none " + what, -1, x.farthest(what));
            due("one town " + what, -1, with("town;").farthest(what));
        }
        CHECK.wrongArgument("farthest(3)", () -> x.farthest(3));
        CHECK.wrongArgument("farthest(-1)", () -> x.farthest(-1));
    }

    private static void p20Joined() {
        RoadHolidays x = with(LAND);
        int[] want = {0, 1, 1, 1, 1, 1, 1};
        for (int d = 0; d < 7; d++) {
            due("joined " + d, want[d], x.joined(d) ? 1 : 0);
        }
        Check.law(x, "0");
        due("whatever their pace", 1, x.joined(1) ? 1 : 0);
        due("no town", 1, new RoadHolidays().joined(3) ? 1 : 0);
        due("one town", 1, with("town;").joined(3) ? 1 : 0);
        due("two towns", 0, with("town;town;").joined(3) ? 1 : 0);
        CHECK.wrongArgument("joined(7)", () -> x.joined(7) ? 1 : 0);
        CHECK.wrongArgument("joined(-1)", () -> x.joined(-1) ? 1 : 0);
    }

    private static void p21Part() {
        RoadHolidays x = with(LAND);
        due("two", 2, x.part(0, 1, 2));
        due("one", 1, x.part(0, 3, 2));
        due("none", 0, x.part(0, 3, 0));
        due("itself", -1, x.part(2, 2, 0));
        RoadHolidays y = with("town;town;" + times("road 0 1 1 3;", 12));
        due("twelve", 12, y.part(1, 0, 0));
        due("all rest", 0, y.part(1, 0, 3));
        CHECK.noSuch("part(4, 0, 9)", () -> x.part(4, 0, 9));
        CHECK.noSuch("part(0, 4, 0)", () -> x.part(0, 4, 0));
        CHECK.wrongArgument("part(0, 1, 7)", () -> x.part(0, 1, 7));
        CHECK.wrongArgument("part(2, 2, -1)", () -> x.part(2, 2, -1));
    }

    private static void p22Mend() {
        RoadHolidays x = with("town;town;town;road 0 1 1 2;road 0 1 40 2;road 1 2 3 2;road 2 0 40 4;");
        due("road", 0, x.mend(0));
        due("day", 0, x.mend(1));
        due("days", 7, x.mend(2));
        RoadHolidays y = with(LAND);
        for (int what = 0; what <= 2; what++) {
            due("not more " + what, -1, y.mend(what));
        }
        RoadHolidays z = with("town;town;town;road 1 2 1 5;road 0 1 1 0;road 0 1 1 0;");
        due("all rest at once", 0, z.mend(0));
        due("on day 0", 0, z.mend(1));
        due("six days", 6, z.mend(2));
        // Two roads rest together where one would do: the first of them has to move to another day.
        RoadHolidays w = with("town;town;town;road 1 2 1 5;road 1 2 1 4;road 0 1 1 0;road 0 1 1 0;");
        due("third road", 2, w.mend(0));
        due("first other day", 1, w.mend(1));
        due("seven days", 7, w.mend(2));
        CHECK.wrongArgument("mend(3)", () -> x.mend(3));
        CHECK.wrongArgument("mend(-1)", () -> x.mend(-1));
    }

    private static void p23Picnic() {
        RoadHolidays x = with(LAND);
        due("two", 2, x.picnic(0));
        due("one", 1, x.picnic(1));
        due("none", 0, x.picnic(2));
        // The first road taken greedily would leave only one.
        RoadHolidays y = with("town;town;town;town;road 1 2 1 0;road 0 1 1 0;road 2 3 1 0;road 0 1 1 0;");
        due("not by the first", 2, y.picnic(0));
        due("seven towns", 3, with(times("town;", 7) + "road 0 1 1 0;road 1 2 1 0;road 2 3 1 0;road 3 4 1 0;road 4 5 1 0;road 5 6 1 0;").picnic(0));
        due("star", 1, with(times("town;", 4) + "road 0 1 1 0;road 0 2 1 0;road 0 3 1 0;").picnic(0));
        CHECK.wrongArgument("picnic(7)", () -> x.picnic(7));
        CHECK.wrongArgument("picnic(-1)", () -> x.picnic(-1));
    }

    private static void p24Fits() {
        RoadHolidays x = with("town;town;road 0 1 40 0;road 0 1 10 0;");
        due("no lines", 127, x.fits(0));
        Check.book(x, "12 8;");
        due("four hours of day 1 or of day 2", 6, x.fits(0));
        due("length not reached", 6, x.fits(1));
        Check.book(x, "12 8;8 16;");
        due("only day 2", 4, x.fits(0));
        Check.book(x, "12 8;8 16;16 16;");
        due("none", 0, x.fits(0));
        Check.book(x, "52 8;");
        due("the week goes round", 65, x.fits(0));
        Check.book(x, "53 10;");
        // Day 6 off leaves 5 hours of day 0, day 0 off 3 hours of day 6: 10 and 6 miles.
        due("cut at the length", 126, x.fits(1));
        Check.law(x, "0");
        Check.book(x, "0 0;");
        due("nothing goes", 127, x.fits(0));
        CHECK.noSuch("fits(2)", () -> x.fits(2));
        CHECK.noSuch("fits(-1)", () -> x.fits(-1));
    }

    private static void p25Look() {
        RoadHolidays x = with("town;town;road 0 1 40 0;road 0 1 6 0;");
        // At hour 1 the days 0, 1 and all others tell apart: five are left at the worst.
        due("first look", 1, x.look(0, 0));
        due("left", 5, x.look(0, 1));
        due("short road", 0, x.look(1, 0));
        due("short road left", 6, x.look(1, 1));
        Check.book(x, "1 16;");
        due("second look", 17, x.look(0, 0));
        due("left then", 3, x.look(0, 1));
        Check.book(x, "1 16;17 16;");
        due("third look", 33, x.look(0, 0));
        due("left at last", 1, x.look(0, 1));
        Check.book(x, "0 0;");
        due("one fits", 1, x.fits(0));
        due("hour in no line", 1, x.look(0, 0));
        due("one left", 1, x.look(0, 1));
        Check.book(x, "0 7;");
        due("nothing", -1, x.look(0, 0));
        due("nothing left", -1, x.look(0, 1));
        CHECK.noSuch("look(2, 2)", () -> x.look(2, 2));
        CHECK.wrongArgument("look(0, 2)", () -> x.look(0, 2));
        CHECK.wrongArgument("look(0, -1)", () -> x.look(0, -1));
    }

    private static void p26Inn() {
        RoadHolidays x = new RoadHolidays();
        inn(x, 5, 3, 1, 0, 4);
        inn(x, 3, 5, 2, 1, 3);
        inn(x, 4, 4, 3, 0, 0);
        inn(x, 0, 0, 4, 0, 0);
        inn(x, 0, 99, 3, 1, 0);
        inn(x, 99, 0, 1, 0, 198);
        CHECK.wrongArgument("inn(100, 0, 0)", () -> x.inn(100, 0, 0));
        CHECK.wrongArgument("inn(0, 100, 0)", () -> x.inn(0, 100, 0));
        CHECK.wrongArgument("inn(-1, 0, 0)", () -> x.inn(-1, 0, 0));
        CHECK.wrongArgument("inn(0, -1, 0)", () -> x.inn(0, -1, 0));
        CHECK.wrongArgument("inn(0, 0, 3)", () -> x.inn(0, 0, 3));
        CHECK.wrongArgument("inn(0, 0, -1)", () -> x.inn(0, 0, -1));
    }

    private static void inn(RoadHolidays x, int v, int w, int many, int first, int together) {
        due("inn rests " + v + " " + w, many, x.inn(v, w, 0));
        due("inn first " + v + " " + w, first, x.inn(v, w, 1));
        due("inn together " + v + " " + w, together, x.inn(v, w, 2));
    }

    private static void p27Luck() {
        RoadHolidays x = new RoadHolidays();
        luck(x, 0, 0, 9, 1, 1);
        luck(x, 2, 1, 8, 3, 4);
        luck(x, 2, 2, 8, 1, 4);
        luck(x, 3, 4, 16, 0, 1);
        luck(x, 12, 13, 5, 0, 1);
        luck(x, 5, 5, 16, 1, 1);
        luck(x, 5, 1, 0, 0, 1);
        luck(x, 5, 0, 0, 1, 1);
        luck(x, 1, 1, 3, 3, 16);
        luck(x, 2, 1, 4, 7, 16);
        luck(x, 12, 12, 1, 1, 281474976710656L);
        luck(x, 12, 1, 15, 281474976710655L, 281474976710656L);
        int[][] wrong = {{13, 0, 0, 0}, {-1, 0, 0, 0}, {0, 14, 0, 0}, {0, -1, 0, 0}, {0, 0, 17, 0}, {0, 0, -1, 0}, {0, 0, 0, 2}, {0, 0, 0, -1}};
        for (int[] w : wrong) {
            CHECK.wrongArgument("luck " + w[0] + " " + w[1] + " " + w[2] + " " + w[3], () -> x.luck(w[0], w[1], w[2], w[3]));
        }
    }

    private static void luck(RoadHolidays x, int n, int k, int q, long above, long below) {
        due("luck above " + n + " " + k + " " + q, above, x.luck(n, k, q, 0));
        due("luck below " + n + " " + k + " " + q, below, x.luck(n, k, q, 1));
    }

    private static void p28Oats() {
        RoadHolidays x = with("town;carter 0 10;carter 0 5;carter 0 0;carter 0 99;");
        due("four each", 4, x.oats(0, 3, 9));
        due("five and seven", 7, x.oats(0, 3, 12));
        due("his five", 5, x.oats(1, 3, 12));
        due("all", 10, x.oats(0, 3, 15));
        due("more than all", 99, x.oats(3, 15, 999));
        due("none of them", 0, x.oats(3, 3, 999));
        due("nobody", 0, x.oats(0, 0, 999));
        due("nothing there", 0, x.oats(0, 3, 0));
        due("not enough for all", 0, x.oats(0, 15, 2));
        due("without load", 0, x.oats(2, 15, 50));
        due("bound by others", 35, x.oats(3, 15, 50));
        CHECK.noSuch("oats(4, 99, 0)", () -> x.oats(4, 99, 0));
        CHECK.noSuch("oats(-1, 0, 0)", () -> x.oats(-1, 0, 0));
        CHECK.wrongArgument("oats(0, 16, 0)", () -> x.oats(0, 16, 0));
        CHECK.wrongArgument("oats(0, -1, 0)", () -> x.oats(0, -1, 0));
        CHECK.wrongArgument("oats(0, 1, -1)", () -> x.oats(0, 1, -1));
        CHECK.wrongArgument("oats(0, 1, 1000)", () -> x.oats(0, 1, 1000));
    }

    private static void p29Weariest() {
        RoadHolidays x = with(LAND);
        due("none tired", 0, x.weariest(0));
        due("by 0", 0, x.weariest(1));
        Check.work(x, "set 0 2;hour;hour;");
        due("road 2", 2, x.weariest(0));
        due("by 2", 2, x.weariest(1));
        Check.work(x, "set 1 1;hour;hour;");
        due("road 2 is still", 4, x.weariest(1));
        RoadHolidays y = with("town;");
        due("no roads", -1, y.weariest(0));
        due("no roads at all", -1, y.weariest(1));
        CHECK.wrongArgument("weariest(2)", () -> x.weariest(2));
        CHECK.wrongArgument("weariest(-1)", () -> x.weariest(-1));
    }

    private static void p30Arrives() {
        RoadHolidays x = with("town;town;road 0 1 20 0;carter 0 1;carter 1 1;");
        due("in town", 0, x.arrives(0));
        Check.work(x, "set 0 0;");
        due("rests first", 18, x.arrives(0));
        Check.work(x, "turn 0;");
        due("all gone already", 9, x.arrives(0));
        // By 3 less the many: with two on the road he goes one mile an hour, alone two.
        Check.law(x, "3-many");
        Check.work(x, "turn 0;again 8[hour;];hour;hour;hour;hour;set 1 0;");
        due("eight gone", 8, x.carter(0, 2));
        due("both go slowly", 12, x.arrives(0));
        due("the other goes fast then", 12 + 4, x.arrives(1));
        due("nothing changed", 12, x.told(3));
        Check.law(x, "0");
        due("never", -1, x.arrives(0));
        Check.law(x, "week/20");
        due("late", 20 * 56 - 12 + 8 + 12 > 999 ? -1 : 0, x.arrives(0));
        Check.law(x, "week/17");
        due("just in time", 17 * 56 - 12 + 8 + 12, x.arrives(0));
        CHECK.noSuch("arrives(2)", () -> x.arrives(2));
        CHECK.noSuch("arrives(-1)", () -> x.arrives(-1));
    }

    private static void p31Reach() {
        RoadHolidays x = with(LAND);
        due("itself", 1, x.reach(0, 0));
        due("not yet", 1, x.reach(0, 5));
        due("two", 5, x.reach(0, 6));
        due("three", 7, x.reach(0, 8));
        due("all", 15, x.reach(0, 200));
        Check.work(x, "again 16[hour;];");
        due("from now on", 3, x.reach(0, 3));
        CHECK.noSuch("reach(4, -1)", () -> x.reach(4, -1));
        CHECK.wrongArgument("reach(0, -1)", () -> x.reach(0, -1));
        CHECK.wrongArgument("reach(0, 201)", () -> x.reach(0, 201));
    }

    private static void p32Year() {
        // SEED 0 becomes 12,345: its bits 16 to 30 are 0; then -741,614,398 ...: drawn by hand below.
        RoadHolidays x = with("town;town;road 0 1 2 6;carter 0 1;");
        due("comes each hour", 10, x.year(0, 0, 10, 0));
        due("on none", 0, x.year(0, 0, 10, 1));
        due("tired", 10, x.year(0, 0, 10, 2));
        due("joined", 6, x.year(0, 0, 10, 3));
        due("on day 6 all rest", 48, x.year(0, 0, 50, 0));
        due("he is on it", 1, x.year(0, 0, 50, 1));
        due("not tired", 0, x.year(0, 0, 50, 2));
        due("nothing changed", 0, x.told(3) + x.told(11) + x.told(7));
        Check.law(x, "1");
        due("every other hour", 5, x.year(-5, 0, 11, 0));
        due("half way", 1, x.year(-5, 0, 11, 1));
        // Without carters and roads nothing is drawn, without carters only what roads need.
        RoadHolidays y = with("town;town;carter 0 1;");
        for (int what = 0; what <= 3; what++) {
            due("no roads " + what, 0, y.year(7, 16, 96, what));
        }
        CHECK.wrongArgument("year(1, 17, 1, 0)", () -> x.year(1, 17, 1, 0));
        CHECK.wrongArgument("year(1, -1, 1, 0)", () -> x.year(1, -1, 1, 0));
        CHECK.wrongArgument("year(1, 0, 0, 0)", () -> x.year(1, 0, 0, 0));
        CHECK.wrongArgument("year(1, 0, 97, 0)", () -> x.year(1, 0, 97, 0));
        CHECK.wrongArgument("year(1, 0, 1, 4)", () -> x.year(1, 0, 1, 4));
        CHECK.wrongArgument("year(1, 0, 1, -1)", () -> x.year(1, 0, 1, -1));
    }

    private static void p33Span() {
        RoadHolidays x = with(LAND);
        int fewest = 999;
        int most = 0;
        for (int i = 0; i < 10; i++) {
            int came = x.year(Integer.MAX_VALUE - 3 + i, 5, 90, 0);
            fewest = Math.min(fewest, came);
            most = Math.max(most, came);
        }
        due("fewest", fewest, x.span(Integer.MAX_VALUE - 3, 10, 5, 90, 0, 1));
        due("most", most, x.span(Integer.MAX_VALUE - 3, 10, 5, 90, 1, 0));
        int in = 0;
        for (int i = 0; i < 10; i++) {
            in += 1 - (x.year(40 + i, 3, 33, 1) >> 1 & 1);
        }
        due("in a town", in, x.span(40, 10, 3, 33, 2, 1));
        RoadHolidays y = with("town;town;town;road 0 1 40 6;carter 0 0;carter 2 0;");
        due("no road from his town", 10, y.span(1, 10, 0, 19, 2, 1));
        due("on a long road", 0, y.span(1, 10, 0, 19, 2, 0));
        due("came never", 0, y.span(1, 10, 0, 19, 1, 0));
        int[][] wrong = {{0, 0, 1, 0, 0}, {11, 0, 1, 0, 0}, {1, -1, 1, 0, 0}, {1, 17, 1, 0, 0}, {1, 0, 0, 0, 0},
            {1, 0, 97, 0, 0}, {1, 0, 1, -1, 0}, {1, 0, 1, 3, 0}, {1, 0, 1, 0, 2}, {1, 0, 1, 1, -1}, {1, 0, 1, 2, 2}};
        for (int[] w : wrong) {
            CHECK.wrongArgument("span " + java.util.Arrays.toString(w), () -> x.span(1, w[0], w[1], w[2], w[3], w[4]));
        }
        due("all of them illegal arguments", wrong.length, x.status(1));
    }

    private static void p34Image() {
        RoadHolidays x = with(LAND);
        due("first", 1, x.image());
        due("second", 2, x.image());
        due("third", 3, x.image());
        due("fourth", -1, x.image());
        due("three stay", 3, x.count(0));
        due("one is gone", 2, x.restore());
        due("third again", 3, x.image());
    }

    private static void p35Restore() {
        RoadHolidays x = with(LAND);
        due("none", -1, x.restore());
        Check.work(x, "set 0 2;hour;");
        Check.work(x, "load 0 3;");
        x.image();
        Check.work(x, "off 2 0;hour;turn 0;turn 1;");
        x.image();
        Check.work(x, "again 20[hour;];");
        x.undo();
        x.undo();
        x.undo();
        Check.law(x, "7");
        Check.book(x, "1 1;");
        due("latest", 1, x.restore());
        due("hour", 2, x.told(3));
        due("off", 0, x.road(2, 3));
        due("gone", 10, x.carter(0, 2));
        due("refused", 0, x.told(10));
        due("law stays", 7, x.road(0, 7));
        due("book stays", 1, x.told(9));
        due("works", 3, x.count(2));
        due("undo", 2, x.undo());
        due("load stays", 3, x.carter(0, 3));
        due("undo two", 1, x.undo());
        due("load", 10, x.carter(0, 3));
        due("first", 0, x.restore());
        due("works then", 2, x.count(2));
        due("hour then", 1, x.told(3));
        due("load then", 3, x.carter(0, 3));
        Check.work(x, "turn 1;");
        due("none left", -1, x.restore());
        due("nothing done", 3, x.count(2));
        due("not even to refused ones", 1, x.told(10));
    }

    private static void p36Status() {
        RoadHolidays x = new RoadHolidays();
        Check.thrownBy(() -> x.town(0, 0));
        Check.thrownBy(() -> x.land(1));
        Check.thrownBy(() -> x.told(99));
        x.image();
        Check.thrownBy(() -> x.carter(0, 0));
        x.restore();
        due("no such", 2, x.status(0));
        due("wrong", 2, x.status(1));
        due("others", -1, x.status(2));
        due("others below", -1, x.status(-1));
        x.land(0);
        due("land keeps it", 2, x.status(1));
    }

    private static void p37Count() {
        RoadHolidays x = with(LAND);
        x.feed(1, 2, 3, 4, 5);
        x.image();
        due("images", 1, x.count(0));
        due("bytes", 20, x.count(1));
        due("works", 0, x.count(2));
        x.work(0);
        due("tape is empty", 0, x.count(1));
        due("one work", 1, x.count(2));
        due("others", -1, x.count(3));
        due("others below", -1, x.count(-1));
    }
}
