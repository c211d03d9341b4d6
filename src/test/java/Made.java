/** Objects on which tests begin. */
final class Made {
    /** Towns 0 to 3; roads 0-1, 1-2, 0-2, 2-3; two carters. */
    static final String LAND = "town;town;town;town;road 0 1 6 0;road 1 2 4 1;road 0 2 12 3;road 2 3 2 0;carter 0 10;carter 2 5;";

    /** As many of each as there can be. */
    static final String FULL_LAND = "town;".repeat(7) + "road 5 6 40 6;".repeat(12) + "carter 6 99;".repeat(5);

    private Made() {
    }

    static RoadHolidays with(String land) {
        RoadHolidays x = new RoadHolidays();
        Check.land(x, land);
        return x;
    }

    static RoadHolidays with(String land, String law) {
        RoadHolidays x = with(land);
        Check.law(x, law);
        return x;
    }

    /** One in which whatever a call might change is there: LAW, BOOK, WORKS, IMAGES, REFUSED STEPS, a FAULT, refused calls, a TAPE. */
    static RoadHolidays lively() {
        RoadHolidays x = with(LAND, "length/3+tired+many*2+hour+day+week+load/10-road");
        Check.book(x, "12 8;");
        Check.work(x, "set 0 2;hour;load 1 9;");
        x.image();
        Check.work(x, "off 1 4;turn 0;hour;set 1 1;turn 1;set 0 0;set 0 0;load 1 9;");
        x.image();
        Check.thrownBy(() -> x.town(9, 0));
        Check.thrownBy(() -> x.told(99));
        Check.thrownBy(() -> x.told(-1));
        Check.law(x, "9 9");
        Check.feed(x, "town;town; town;  ;;");
        return x;
    }

    static RoadHolidays worked(String work) {
        RoadHolidays x = with(LAND);
        Check.work(x, work);
        return x;
    }
}
