import java.util.Random;

/** Runs of drawn calls on the class and on the naive model of it; each answer must be alike. */
public final class ModelTest {
    private static final int RUNS = 700;
    private static final int CALLS = 200;

    private final Check check;
    private final Random random;
    private final RoadHolidays x = new RoadHolidays();
    private final Model m = new Model();
    private final String name;

    private ModelTest(Check check, int run) {
        this.check = check;
        this.random = new Random(run);
        this.name = "run " + run;
    }

    public static void main(String[] args) {
        Check check = new Check();
        for (int run = 0; run < RUNS; run++) {
            new ModelTest(check, run).run();
        }
        check.end("ModelTest");
    }

    private void run() {
        text(0, land());
        for (int i = 0; i < CALLS; i++) {
            call();
        }
    }

    private int below(int n) {
        return random.nextInt(n);
    }

    /** Mostly what can be, sometimes a bit beyond. */
    private int near(int least, int most) {
        int by = below(40);
        if (by == 0) {
            return least - 1;
        }
        if (by == 1) {
            return most + 1;
        }
        if (by < 4) {
            return by == 2 ? least : most;
        }
        return most < least ? least : least + below(most - least + 1);
    }

    private String blanks() {
        return below(8) == 0 ? " ".repeat(below(4)) : "";
    }

    private String number(int least, int most) {
        int v = below(60) == 0 ? most + 1 : most < least ? 0 : least + below(most - least + 1);
        return " " + blanks() + (below(30) == 0 ? "00" : "") + v;
    }

    private String land() {
        StringBuilder b = new StringBuilder();
        int towns = below(20) == 0 ? 8 : 1 + below(7);
        int early = below(10) == 0 ? below(towns) : 0;
        for (int i = 0; i < towns - early; i++) {
            b.append(blanks()).append("town").append(blanks()).append(";");
        }
        towns = Math.min(7, towns);
        int roads = below(20) == 0 ? 13 : below(13);
        int days = 1 + below(7);
        int longest = below(2) == 0 ? 40 : 10;
        for (int i = 0; i < roads; i++) {
            int a = below(towns);
            int o = towns < 2 ? 0 : (a + 1 + below(towns - 1)) % towns;
            b.append(blanks()).append("road ").append(a).append(' ').append(o).append(number(1, longest)).append(number(0, days - 1)).append(blanks()).append(";");
        }
        int carters = below(20) == 0 ? 6 : below(6);
        for (int i = 0; i < carters; i++) {
            b.append(blanks()).append("carter").append(number(0, towns - 1)).append(number(0, 99)).append(";");
        }
        return b.append(blanks()).toString();
    }

    private String sum(int depth) {
        StringBuilder b = new StringBuilder(product(depth));
        for (int i = below(3); i > 0; i--) {
            b.append(blanks()).append(below(2) == 0 ? "+" : "-").append(product(depth));
        }
        return b.toString();
    }

    private String product(int depth) {
        StringBuilder b = new StringBuilder(unit(depth));
        for (int i = below(4) - 1; i > 0; i--) {
            b.append(blanks()).append("*/%".charAt(below(3))).append(unit(depth));
        }
        return b.toString();
    }

    private String unit(int depth) {
        int by = below(depth > 0 ? 14 : 11);
        if (by < 3) {
            return blanks() + (below(5) == 0 ? number(0, 999) : number(0, 12));
        }
        if (by < 11) {
            String[] words = {"length", "tired", "load", "many", "hour", "day", "week", "road"};
            return " " + words[by - 3];
        }
        if (by == 11) {
            return blanks() + "(" + sum(depth - 1) + blanks() + ")";
        }
        return (by == 12 ? " least" : " most") + blanks() + "[" + sum(depth - 1) + blanks() + "," + sum(depth - 1) + "]";
    }

    private String law() {
        if (below(25) == 0) {
            return "(".repeat(4 + below(4)) + "1" + ")".repeat(4 + below(4));
        }
        if (below(3) == 0) {
            return below(5) + "+" + unit(0) + "%" + (1 + below(5));
        }
        return sum(3);
    }

    private String steps(int depth) {
        StringBuilder b = new StringBuilder();
        for (int i = below(5); i > 0; i--) {
            b.append(blanks()).append(step(depth)).append(blanks()).append(";");
        }
        return b.toString();
    }

    private String step(int depth) {
        int carters = m.told(2);
        int roads = m.told(1);
        switch (below(depth > 0 ? 12 : 9)) {
            case 0: case 1: case 2: return carters == 0 || roads == 0 ? "hour" : "set" + number(0, carters - 1) + number(0, roads - 1);
            case 3: return carters == 0 ? "hour" : "turn" + number(0, carters - 1);
            case 4: return carters == 0 ? "hour" : "load" + number(0, carters - 1) + number(0, 99);
            case 5: return roads == 0 ? "hour" : "off" + number(0, roads - 1) + number(0, 6);
            case 6: case 7: case 8: return "hour";
            default: return "again" + number(0, below(3) == 0 ? 60 : 6) + blanks() + "[" + steps(depth - 1) + "]";
        }
    }

    private String work() {
        if (below(25) == 0) {
            int deep = 5 + below(3);
            return "again 2[".repeat(deep) + "hour;" + "];".repeat(deep);
        }
        return steps(3) + blanks();
    }

    private String book() {
        StringBuilder b = new StringBuilder();
        int truth = below(7);
        int road = m.told(1) == 0 ? -1 : below(m.told(1));
        for (int i = below(15) == 0 ? 7 : below(4); i > 0; i--) {
            int h = below(56);
            b.append(blanks()).append(h);
            int pace = road < 0 ? 1 : m.road(road, 7);
            int length = road < 0 ? 9 : m.road(road, 2);
            int gone = 0;
            for (int k = 0; k < 8; k++) {
                gone += (h + k) / 8 % 7 == truth ? 0 : pace;
            }
            b.append(below(6) == 0 ? number(0, 99) : " " + Math.min(gone, length)).append(";");
        }
        return b.toString();
    }

    /** Now and then a sign is left out, changed or put in. */
    private String spoilt(String text) {
        if (below(6) != 0 || text.isEmpty()) {
            return text;
        }
        StringBuilder b = new StringBuilder(text);
        int at = below(text.length());
        char sign = below(5) == 0 ? (char) below(256) : " ;[](),+-*/%0129aehorstuE".charAt(below(25));
        switch (below(4)) {
            case 0: b.deleteCharAt(at); break;
            case 1: b.setCharAt(at, sign); break;
            case 2: b.insert(at, sign); break;
            default: b.setLength(at); break;
        }
        return b.toString();
    }

    private void text(int kind, String whole) {
        String text = spoilt(whole);
        for (int at = 0; at < text.length() || at == 0 && below(4) == 0; at += 20) {
            int[] v = new int[5];
            for (int i = 0; i < 20; i++) {
                int sign = at + i < text.length() ? text.charAt(at + i) : below(256);
                v[i / 4] = v[i / 4] << 8 | sign;
            }
            alike("feed", () -> x.feed(v[0], v[1], v[2], v[3], v[4]), () -> m.feed(v[0], v[1], v[2], v[3], v[4]));
        }
        int n = below(60) == 0 ? text.length() + below(60) - 20 : text.length();
        String told = "text " + kind + " '" + text + "' " + n;
        switch (kind) {
            case 0: alike(told, () -> x.land(n), () -> m.land(n)); break;
            case 1: alike(told, () -> x.law(n), () -> m.law(n)); break;
            case 2: alike(told, () -> x.work(n), () -> m.work(n)); break;
            default: alike(told, () -> x.book(n), () -> m.book(n)); break;
        }
        alike("fault of " + told, () -> x.fault(), () -> m.fault());
    }

    private void alike(String what, Check.Call one, Check.Call other) {
        long[] a = answer(one);
        long[] b = answer(other);
        check.due(name + ": " + what + " (throws)", b[0], a[0]);
        check.due(name + ": " + what, b[1], a[1]);
    }

    private static long[] answer(Check.Call call) {
        long[] out = {0, 0};
        try {
            out[1] = call.run();
        } catch (java.util.NoSuchElementException e) {
            out[0] = 1;
        } catch (IllegalArgumentException e) {
            out[0] = 2;
        } catch (Model.Fault e) {
            out[0] = 3;
        } catch (RuntimeException e) {
            out[0] = 4;
        }
        return out;
    }

    private void call() {
        int a = near(0, m.told(0) - 1);
        int b = near(0, m.told(0) - 1);
        int r = near(0, m.told(1) - 1);
        int c = near(0, m.told(2) - 1);
        int h = below(3) == 0 ? m.told(3) : near(0, below(5) == 0 ? 5600 : 100);
        int d = near(0, 6);
        int by = below(46);
        if (by < 8) {
            changing(by);
        } else if (by < 18) {
            told(by, a, r, c);
        } else if (by < 33) {
            asked(by, a, b, r, h, d);
        } else {
            counted(by, a, r, c);
        }
    }

    private void changing(int by) {
        switch (by) {
            case 0: text(1, law()); break;
            case 1: case 2: case 3: text(2, work()); break;
            case 4: text(3, book()); break;
            case 5: alike("undo", () -> x.undo(), () -> m.undo()); break;
            case 6:
                if (below(2) == 0) {
                    alike("image", () -> x.image(), () -> m.image());
                } else {
                    alike("restore", () -> x.restore(), () -> m.restore());
                }
                break;
            default:
                if (below(8) == 0) {
                    text(0, land());
                }
                break;
        }
    }

    private void told(int by, int a, int r, int c) {
        switch (by) {
            case 8: case 9: { int w = near(0, 11); alike("told " + w, () -> x.told(w), () -> m.told(w)); break; }
            case 10: { int w = near(0, 1); alike("town " + a + " " + w, () -> x.town(a, w), () -> m.town(a, w)); break; }
            case 11: case 12: { int w = near(0, 7); alike("road " + r + " " + w, () -> x.road(r, w), () -> m.road(r, w)); break; }
            case 13: case 14: case 15: { int w = near(0, 4); alike("carter " + c + " " + w, () -> x.carter(c, w), () -> m.carter(c, w)); break; }
            case 16: { int w = near(0, 1); alike("weariest " + w, () -> x.weariest(w), () -> m.weariest(w)); break; }
            default: {
                int[] g = {near(1, 40), near(0, 999), near(0, 495), near(0, 5), near(0, 7), near(0, 6), near(0, 100), near(0, 11)};
                alike("would", () -> x.would(g[0], g[1], g[2], g[3], g[4], g[5], g[6], g[7]), () -> m.would(g));
                break;
            }
        }
    }

    private void asked(int by, int a, int b, int r, int h, int d) {
        switch (by) {
            case 18: case 19: alike("lasts " + r + " " + h, () -> x.lasts(r, h), () -> m.lasts(r, h)); break;
            case 20: alike("soon " + a + " " + b + " " + h, () -> x.soon(a, b, h), () -> m.soon(a, b, h)); break;
            case 21: case 22: { int w = near(0, 2); alike("way " + a + " " + b + " " + h + " " + w, () -> x.way(a, b, h, w), () -> m.way(a, b, h, w)); break; }
            case 23: { int n = near(0, below(2) == 0 ? 20 : 200); if (below(5) == 0) { alike("latest " + a + " " + b + " " + h + " " + n, () -> x.latest(a, b, h, n), () -> m.latest(a, b, h, n)); } break; }
            case 24: { int w = near(0, 1); alike("day " + a + " " + b + " " + w, () -> x.day(a, b, w), () -> m.day(a, b, w)); break; }
            case 25: { int w = near(0, 2); alike("farthest " + w, () -> x.farthest(w), () -> m.farthest(w)); break; }
            case 26: alike("joined " + d, () -> x.joined(d) ? 1 : 0, () -> m.joined(d) ? 1 : 0); break;
            case 27: if (below(3) == 0) { alike("part " + a + " " + b + " " + d, () -> x.part(a, b, d), () -> m.part(a, b, d)); } break;
            case 28: { int w = near(0, 2); alike("mend " + w, () -> x.mend(w), () -> m.mend(w)); break; }
            case 29: alike("picnic " + d, () -> x.picnic(d), () -> m.picnic(d)); break;
            case 30: alike("fits " + r, () -> x.fits(r), () -> m.fits(r)); break;
            case 31: { int w = near(0, 1); alike("look " + r + " " + w, () -> x.look(r, w), () -> m.look(r, w)); break; }
            default: { int n = near(0, below(2) == 0 ? 20 : 200); alike("reach " + a + " " + n, () -> x.reach(a, n), () -> m.reach(a, n)); break; }
        }
    }

    private void counted(int by, int a, int r, int c) {
        int seed = random.nextInt();
        switch (by) {
            case 33: { int v = near(0, below(2) == 0 ? 3 : 99); int w = near(0, below(2) == 0 ? 3 : 99); int k = near(0, 2); alike("inn " + v + " " + w + " " + k, () -> x.inn(v, w, k), () -> m.inn(v, w, k)); break; }
            case 34: { int n = near(0, 12); int k = near(0, 13); int q = near(0, 16); int f = near(0, 1); alike("luck " + n + " " + k + " " + q + " " + f, () -> x.luck(n, k, q, f), () -> m.luck(n, k, q, f)); break; }
            case 35: case 36: { int s = near(0, (1 << m.told(2)) - 1); int n = near(0, below(2) == 0 ? 100 : 999); alike("oats " + c + " " + s + " " + n, () -> x.oats(c, s, n), () -> m.oats(c, s, n)); break; }
            case 37: case 38: alike("arrives " + c, () -> x.arrives(c), () -> m.arrives(c)); break;
            case 39: case 40: { int q = near(0, 16); int n = near(1, 96); int w = near(0, 3); alike("year " + seed + " " + q + " " + n + " " + w, () -> x.year(seed, q, n, w), () -> m.year(seed, q, n, w)); break; }
            case 41: { int k = near(1, 10); int q = near(0, 16); int n = near(1, 96); int w = near(0, 2); alike("span " + seed + " " + k + " " + q + " " + n + " " + w + " " + c, () -> x.span(seed, k, q, n, w, c), () -> m.span(seed, k, q, n, w, c)); break; }
            case 42: { int w = below(5) - 1; alike("status " + w, () -> x.status(w), () -> m.status(w)); break; }
            case 43: { int w = below(5) - 1; alike("count " + w, () -> x.count(w), () -> m.count(w)); break; }
            case 44: alike("fault", () -> x.fault(), () -> m.fault()); break;
            default: { int w = near(0, 11); alike("told " + w, () -> x.told(w), () -> m.told(w)); break; }
        }
    }
}
