import java.lang.reflect.InvocationTargetException;
import java.lang.reflect.Method;
import java.util.NoSuchElementException;

/** For each argument of each call that asks: the last that is allowed and the first that is not, on each side. */
final class ArgumentBoundaries {
    private static final int ANSWERED = 0;
    private static final int NO_SUCH = 1;
    private static final int WRONG = 2;

    /** Of the lively object: 4 TOWNS, 4 ROADS, 2 CARTERS. */
    private static final Range TOWN = new Range(0, 3, NO_SUCH);
    private static final Range ROAD = new Range(0, 3, NO_SUCH);
    private static final Range CARTER = new Range(0, 1, NO_SUCH);
    private static final Range HOUR = to(5600);
    private static final Range DAY = to(6);
    private static final Range ANY = new Range(Integer.MIN_VALUE, Integer.MAX_VALUE, ANSWERED);

    private record Range(int least, int most, int kind) { }

    private ArgumentBoundaries() {
    }

    private static Range to(int most) {
        return new Range(0, most, WRONG);
    }

    private static Range from(int least, int most) {
        return new Range(least, most, WRONG);
    }

    private static int thrown(RoadHolidays x, String name, int[] given) {
        Object[] boxed = new Object[given.length];
        for (int i = 0; i < given.length; i++) {
            boxed[i] = given[i];
        }
        for (Method m : RoadHolidays.class.getMethods()) {
            if (m.getName().equals(name)) {
                try {
                    m.invoke(x, boxed);
                    return ANSWERED;
                } catch (InvocationTargetException e) {
                    Class<?> kind = e.getCause().getClass();
                    return kind == NoSuchElementException.class ? NO_SUCH : kind == IllegalArgumentException.class ? WRONG : -1;
                } catch (IllegalAccessException e) {
                    return -1;
                }
            }
        }
        return -1;
    }

    /** Neither an answer nor a refusal changes anything, but for the count of refused calls. */
    private static void asks(Check c, String name, int[] given, int kind) {
        String told = name + java.util.Arrays.toString(given);
        Object[] but = kind == ANSWERED ? new Object[0] : kind == NO_SUCH ? new Object[] {"status(0)", 2} : new Object[] {"status(1)", 3};
        Sight.same(c, told, Made::lively, x -> c.due(told + " (0 answers, 1 NoSuchElementException, 2 IllegalArgumentException)", kind, thrown(x, name, given)), but);
    }

    private static int[] ends(Range[] ranges, boolean most) {
        int[] given = new int[ranges.length];
        for (int i = 0; i < given.length; i++) {
            given[i] = most ? ranges[i].most : ranges[i].least;
        }
        return given;
    }

    private static void edges(Check c, String name, Range... ranges) {
        for (int side = 0; side < 2; side++) {
            asks(c, name, ends(ranges, side == 1), ANSWERED);
            for (int i = 0; i < ranges.length; i++) {
                Range r = ranges[i];
                int[] given = ends(ranges, side == 1);
                given[i] = side == 1 ? r.least : r.most;
                asks(c, name, given, ANSWERED);
                if (r.kind == ANSWERED) {
                    continue;
                }
                for (int beyond : new int[] {r.least - 1, r.most + 1, Integer.MIN_VALUE, Integer.MAX_VALUE}) {
                    given[i] = beyond;
                    asks(c, name, given, r.kind);
                }
                bothWrong(c, name, ranges, i, side == 1);
            }
        }
    }

    /** What is not there comes ahead of all other wrong arguments. */
    private static void bothWrong(Check c, String name, Range[] ranges, int i, boolean most) {
        for (int k = 0; k < ranges.length; k++) {
            if (k != i && ranges[k].kind != ANSWERED) {
                int[] given = ends(ranges, most);
                given[i] = ranges[i].most + 1;
                given[k] = ranges[k].least - 1;
                asks(c, name, given, Math.min(ranges[i].kind, ranges[k].kind));
            }
        }
    }

    @Says(in = 9, words = "IllegalArgumentException: another what (so below).")
    static void told(Check c) {
        edges(c, "told", to(11));
    }

    @Says(in = 10, words = "NoSuchElementException: no such TOWN, ROAD, CARTER (so below, ahead of others).")
    static void town(Check c) {
        edges(c, "town", TOWN, to(1));
    }

    @Says(in = 11, words = "Of a ROAD: 0 A, 1 B, 2 L, 3 its DAY OFF now, 4 how TIRED it is, 5 CARTERS on it (bits), 6 PACE now")
    static void road(Check c) {
        edges(c, "road", ROAD, to(7));
    }

    @Says(in = 12, words = "Of a CARTER: 0 the TOWN where he is, or toward which he goes, 1 the ROAD on which he is (NONE), 2 miles gone on it (0 in a TOWN)")
    static void carter(Check c) {
        edges(c, "carter", CARTER, to(4));
    }

    @Says(in = 13, words = "for such length (1 to 40), tired (0 to 999), load (0 to 495), many (0 to 5), hour (0 to 7), day (0 to 6), week (0 to 100), road (0 to 11)")
    static void would(Check c) {
        edges(c, "would", from(1, 40), to(999), to(495), to(5), to(7), to(6), to(100), to(11));
    }

    @Says(in = 13, words = "on a day when the ROAD goes")
    static void wouldAtTheEdges(Check c) {
        String[] words = {"length", "tired", "load", "many", "hour", "day", "week", "road"};
        int[] least = {1, 0, 0, 0, 0, 0, 0, 0};
        int[] most = {40, 999, 495, 5, 7, 6, 100, 11};
        for (int i = 0; i < words.length; i++) {
            // Of a LAND without ROADS as well, and on whatever day it is.
            RoadHolidays x = i % 2 == 0 ? new RoadHolidays() : Made.lively();
            Check.law(x, words[i]);
            int[] g = least.clone();
            c.due("least " + words[i], least[i], x.would(g[0], g[1], g[2], g[3], g[4], g[5], g[6], g[7]));
            Check.law(x, words[i] + "-" + (most[i] - 3));
            g[i] = most[i];
            c.due("most " + words[i], 3, x.would(g[0], g[1], g[2], g[3], g[4], g[5], g[6], g[7]));
            g[i]--;
            c.due("one less " + words[i], 2, x.would(g[0], g[1], g[2], g[3], g[4], g[5], g[6], g[7]));
        }
    }

    @Says(in = 14, words = "How many hours a ROAD TAKEN from HOUR h (0 to 5,600) on takes")
    static void lasts(Check c) {
        edges(c, "lasts", ROAD, HOUR);
    }

    @Says(in = 15, words = "SOON of two TOWNS and an HOUR (0 to 5,600).")
    static void soon(Check c) {
        edges(c, "soon", TOWN, TOWN, HOUR);
    }

    @Says(in = 16, words = "How many ROADS SOON takes (what 0; NONE: no way); the first of these (1; NONE: none), the last (2; NONE).")
    static void way(Check c) {
        edges(c, "way", TOWN, TOWN, HOUR, to(2));
    }

    @Says(in = 17, words = "LATEST of two TOWNS, an HOUR (0 to 5,600), n (0 to 200).")
    static void latest(Check c) {
        edges(c, "latest", TOWN, TOWN, HOUR, to(200));
    }

    @Says(in = 18, words = "BEST DAY of two TOWNS: 0 which, 1 SOON from then; NONE both.")
    static void day(Check c) {
        edges(c, "day", TOWN, TOWN, to(1));
    }

    @Says(in = 19, words = "0 A, 1 B, of alike ones the first (by A, then B), 2 SOON")
    static void farthest(Check c) {
        edges(c, "farthest", to(2));
    }

    @Says(in = 20, words = "Whether TOWNS are JOINED on a day (0 to 6).")
    static void joined(Check c) {
        edges(c, "joined", DAY);
    }

    @Says(in = 21, words = "PART of two TOWNS and a day (0 to 6).")
    static void part(Check c) {
        edges(c, "part", TOWN, TOWN, DAY);
    }

    @Says(in = 22, words = "MEND: 0 the ROAD, 1 the day, 2 on how many days they are JOINED then; NONE all.")
    static void mend(Check c) {
        edges(c, "mend", to(2));
    }

    @Says(in = 23, words = "PICNIC of a day (0 to 6).")
    static void picnic(Check c) {
        edges(c, "picnic", DAY);
    }

    @Says(in = 24, words = "FITS of a ROAD, as bits.")
    static void fits(Check c) {
        edges(c, "fits", ROAD);
    }

    @Says(in = 25, words = "LOOK of a ROAD: 0 the HOUR of the week, 1 how many are left at the worst; NONE both: nothing FITS.")
    static void look(Check c) {
        edges(c, "look", ROAD, to(1));
    }

    @Says(in = 26, words = "INN by v, w (0 to 99): 0 how many RESTS, 1 the first (10 times what the one does, 0 he sets out, 1 he waits, and the other one; NONE), 2 what both have by it together (0 without).")
    static void inn(Check c) {
        edges(c, "inn", to(99), to(99), to(2));
    }

    @Says(in = 27, words = "LUCK of n (0 to 12), k (0 to 13), q (0 to 16): above (half 0), below (half 1)")
    static void luck(Check c) {
        edges(c, "luck", to(12), to(13), to(16), to(1));
    }

    @Says(in = 28, words = "What a CARTER gets of n (0 to 999) by OATS among told CARTERS")
    static void oats(Check c) {
        edges(c, "oats", CARTER, to(3), to(999));
    }

    @Says(in = 29, words = "The ROAD that is most TIRED (what 0), of alike ones the first, how TIRED (1)")
    static void weariest(Check c) {
        edges(c, "weariest", to(1));
    }

    @Says(in = 30, words = "a CARTER is in a TOWN")
    static void arrives(Check c) {
        edges(c, "arrives", CARTER);
    }

    @Says(in = 31, words = "within n hours (0 to 200)")
    static void reach(Check c) {
        edges(c, "reach", TOWN, to(200));
    }

    @Says(in = 32, words = "A YEAR of so many hours (1 to 96), Q (0 to 16): 0 how often")
    static void year(Check c) {
        edges(c, "year", ANY, to(16), from(1, 96), to(3));
    }

    @Says(in = 33, words = "(IllegalArgumentException: no such CARTER, also for 0, 1.)")
    static void span(Check c) {
        edges(c, "span", ANY, from(1, 10), to(16), from(1, 96), to(2), to(1));
        RoadHolidays x = Made.with("town;town;road 0 1 1 0;");
        for (int what = 0; what <= 2; what++) {
            int w = what;
            c.wrongArgument("no CARTERS at all, " + what, () -> x.span(1, 1, 0, 1, w, 0));
        }
        c.due("as wrong arguments", 3, x.status(1));
    }

    @Says(in = 0, words = "Asked, nothing stays changed")
    static void nothingStaysChanged(Check c) {
        // Each call alone is asked at its edges above; here they come one behind the other.
        Sight.same(c, "all calls that ask", Made::lively, x -> {
            for (int i = 0; i < 2; i++) {
                x.soon(0, 3, 0);
                x.way(3, 0, 7, 1);
                x.latest(1, 2, 5600, 200);
                x.day(0, 2, 0);
                x.farthest(0);
                x.reach(0, 200);
                x.part(0, 3, 1);
                x.mend(0);
                x.picnic(0);
                x.look(2, 0);
                x.arrives(0);
                x.arrives(1);
                x.year(3, 16, 96, 0);
                x.span(-1, 10, 16, 96, 1, 1);
                x.would(40, 999, 495, 5, 7, 6, 100, 11);
                x.oats(0, 3, 12);
            }
        });
    }

    @Says(in = 10, words = "NoSuchElementException: no such TOWN, ROAD, CARTER")
    static void nothingThere(Check c) {
        RoadHolidays x = Made.with("town;");
        String[] ofRoads = {"road", "lasts", "look", "fits"};
        String[] ofCarters = {"carter", "oats", "arrives"};
        int calls = 0;
        for (String name : ofRoads) {
            c.due(name + " without ROADS", NO_SUCH, thrown(x, name, name.equals("fits") ? new int[1] : new int[2]));
            calls++;
        }
        for (String name : ofCarters) {
            c.due(name + " without CARTERS", NO_SUCH, thrown(x, name, new int[name.equals("oats") ? 3 : name.equals("arrives") ? 1 : 2]));
            calls++;
        }
        c.due("counted", calls, x.status(0));
        RoadHolidays y = new RoadHolidays();
        int[] given = {2, 3, 4, 4, 3, 3, 2};
        String[] ofTowns = {"town", "soon", "way", "latest", "day", "part", "reach"};
        for (int i = 0; i < ofTowns.length; i++) {
            c.due(ofTowns[i] + " without TOWNS", NO_SUCH, thrown(y, ofTowns[i], new int[given[i]]));
        }
        c.due("counted, too", ofTowns.length, y.status(0));
    }
}
