import java.util.LinkedHashMap;
import java.util.Map;
import java.util.function.Supplier;

/** All that an object shows, as calls with their answers, so that two objects can be compared. */
final class Sight {
    interface Act {
        void on(RoadHolidays x);
    }

    private final RoadHolidays x;
    private final Map<String, Long> seen = new LinkedHashMap<>();
    private final int towns;
    private final int roads;
    private final int carters;

    private Sight(RoadHolidays x) {
        this.x = x;
        this.towns = x.told(0);
        this.roads = x.told(1);
        this.carters = x.told(2);
    }

    /** Uses the object up: what its TAPE, its WORKS and its IMAGES hold is seen only by taking them. */
    static Map<String, Long> of(RoadHolidays x) {
        Sight sight = new Sight(x);
        sight.look();
        sight.undoAll("");
        for (int i = 1; i <= 3; i++) {
            String when = "restored " + i + ": ";
            sight.see(when + "restore()", x.restore());
            sight.glance(when);
            sight.undoAll(when);
        }
        sight.readTape();
        return sight.seen;
    }

    /** An object to which an act is done shows what an alike one shows, but for the named calls. */
    static void same(Check check, String what, Supplier<RoadHolidays> made, Act act, Object... but) {
        Map<String, Long> want = of(made.get());
        for (int i = 0; i < but.length; i += 2) {
            check.due("'" + but[i] + "' is seen at all", 1, want.containsKey(but[i]) ? 1 : 0);
            want.put((String) but[i], ((Number) but[i + 1]).longValue());
        }
        RoadHolidays x = made.get();
        act.on(x);
        Map<String, Long> got = of(x);
        check.due(what + ": calls seen", want.size(), got.size());
        want.forEach((call, answer) -> check.due(what + ", then " + call, answer, got.getOrDefault(call, Long.MIN_VALUE)));
    }

    private void see(String call, long answer) {
        seen.put(call, answer);
    }

    private void look() {
        see("fault()", x.fault());
        for (int what = 0; what <= 11; what++) {
            see("told(" + what + ")", x.told(what));
        }
        for (int t = 0; t < towns; t++) {
            see("town(" + t + ", 0)", x.town(t, 0));
            see("town(" + t + ", 1)", x.town(t, 1));
        }
        for (int r = 0; r < roads; r++) {
            for (int what = 0; what <= 7; what++) {
                see("road(" + r + ", " + what + ")", x.road(r, what));
            }
            see("fits(" + r + ")", x.fits(r));
        }
        for (int c = 0; c < carters; c++) {
            for (int what = 0; what <= 4; what++) {
                see("carter(" + c + ", " + what + ")", x.carter(c, what));
            }
        }
        for (int what = 0; what <= 2; what++) {
            see("count(" + what + ")", x.count(what));
        }
        see("would(1, 0, 0, 0, 0, 0, 0, 0)", x.would(1, 0, 0, 0, 0, 0, 0, 0));
        see("would(3, 1, 10, 1, 1, 1, 1, 1)", x.would(3, 1, 10, 1, 1, 1, 1, 1));
        see("status(0)", x.status(0));
        see("status(1)", x.status(1));
    }

    /** What WORK changes. */
    private void glance(String when) {
        for (int what : new int[] {3, 10, 11}) {
            see(when + "told(" + what + ")", x.told(what));
        }
        for (int r = 0; r < roads; r++) {
            see(when + "road(" + r + ", 3)", x.road(r, 3));
            see(when + "road(" + r + ", 4)", x.road(r, 4));
        }
        for (int c = 0; c < carters; c++) {
            for (int what = 0; what <= 4; what++) {
                see(when + "carter(" + c + ", " + what + ")", x.carter(c, what));
            }
        }
    }

    private void undoAll(String when) {
        for (int i = 1; i <= 17; i++) {
            int left = x.undo();
            see(when + "undo() " + i, left);
            if (left < 0) {
                return;
            }
            glance(when + "undone " + i + ": ");
        }
    }

    private void readTape() {
        int bytes = x.count(1);
        see("TAPE: land()", x.land(bytes));
        see("TAPE: fault()", x.fault());
        for (int what = 0; what <= 2; what++) {
            see("TAPE: told(" + what + ")", x.told(what));
        }
    }
}
