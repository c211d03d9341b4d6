import java.math.BigInteger;
import java.util.ArrayList;
import java.util.Arrays;
import java.util.List;
import java.util.NoSuchElementException;

/** The document once more, told as naively as can be: hour by hour, subset by subset. */
final class Model {
    static final class Fault extends RuntimeException {
        final int kind;
        final int at;

        Fault(int kind, int at) {
            this.kind = kind;
            this.at = at;
        }
    }

    record Token(char type, String text, int at) { }

    record Road(int a, int b, int length, int off) { }

    record Line(int hour, int miles) { }

    interface Value {
        int of(int[] given);
    }

    interface Step {
        void run(Runner runner);
    }

    static final class State {
        int hour;
        int came;
        int[] off;
        int[] tired;
        int[] place;
        int[] on;
        int[] gone;
        int[] load;
        int[] behind;

        State copy() {
            State s = new State();
            s.hour = hour;
            s.came = came;
            s.off = off.clone();
            s.tired = tired.clone();
            s.place = place.clone();
            s.on = on.clone();
            s.gone = gone.clone();
            s.load = load.clone();
            s.behind = behind.clone();
            return s;
        }
    }

    record Image(State state, List<State> works) { }

    final class Runner {
        int begun;
        int done;
        int refused;

        boolean begin() {
            return begun++ < 200;
        }

        void end(boolean right) {
            if (right) {
                done++;
            } else {
                refused++;
            }
        }
    }

    private List<Integer> tape = new ArrayList<>();
    private int towns;
    private List<Road> roads = new ArrayList<>();
    private List<int[]> carters = new ArrayList<>();
    private Value law = g -> 2;
    private List<Line> book = new ArrayList<>();
    private State now = new State();
    private List<State> works = new ArrayList<>();
    private List<Image> images = new ArrayList<>();
    private int fault = -1;
    private int refused;
    private int noSuch;
    private int wrong;

    Model() {
        begin();
    }

    private void begin() {
        now = new State();
        now.off = roads.stream().mapToInt(Road::off).toArray();
        now.tired = new int[roads.size()];
        now.place = carters.stream().mapToInt(c -> c[0]).toArray();
        now.behind = now.place.clone();
        now.load = carters.stream().mapToInt(c -> c[1]).toArray();
        now.gone = new int[carters.size()];
        now.on = new int[carters.size()];
        Arrays.fill(now.on, -1);
        works.clear();
        images.clear();
        refused = 0;
        law = g -> 2;
        book = new ArrayList<>();
    }

    // ---- texts

    private List<Token> tokens;
    private int at;

    private void tokenise(int n) {
        tokens = new ArrayList<>();
        at = 0;
        StringBuilder all = new StringBuilder();
        for (int i = 0; i < n; i++) {
            all.append((char) (int) tape.get(i));
        }
        java.util.regex.Matcher m = java.util.regex.Pattern.compile("[0-9]+|[a-z]+|[^ ]", java.util.regex.Pattern.DOTALL).matcher(all);
        while (m.find()) {
            char c = m.group().charAt(0);
            char type = c >= '0' && c <= '9' ? '0' : c >= 'a' && c <= 'z' ? 'a' : c;
            tokens.add(new Token(type, m.group(), m.start()));
        }
        tokens.add(new Token('E', "", n));
        tape.clear();
    }

    /** An 'E' that stands in the text has a text of its own. */
    private boolean atEnd() {
        return at == tokens.size() - 1;
    }

    private boolean next(String text) {
        return !atEnd() && tokens.get(at).text.equals(text);
    }

    private void want(String text) {
        if (!next(text)) {
            throw new Fault(1, tokens.get(at).at);
        }
        at++;
    }

    private int number(int least, int most) {
        Token t = tokens.get(at);
        if (atEnd() || t.type != '0') {
            throw new Fault(1, t.at);
        }
        BigInteger v = new BigInteger(t.text);
        if (v.compareTo(BigInteger.valueOf(least)) < 0 || v.compareTo(BigInteger.valueOf(most)) > 0) {
            throw new Fault(2, t.at);
        }
        at++;
        return v.intValue();
    }

    private int textBegins(int n, int most) {
        require(n >= 0 && n <= tape.size() && n <= most);
        fault = -1;
        return n;
    }

    private int faulty(Fault f) {
        fault = f.at;
        return f.kind - 10;
    }

    int feed(int a, int b, int c, int d, int e) {
        if (tape.size() > 580) {
            return -1;
        }
        for (int v : new int[] {a, b, c, d, e}) {
            tape.addAll(List.of(v >> 24 & 255, v >> 16 & 255, v >> 8 & 255, v & 255));
        }
        return tape.size();
    }

    int land(int n) {
        tokenise(textBegins(n, 600));
        int t = 0;
        List<Road> r = new ArrayList<>();
        List<int[]> c = new ArrayList<>();
        try {
            for (int clauses = 1; !atEnd(); clauses++) {
                Token word = tokens.get(at);
                boolean many = clauses > 60;
                if (next("town")) {
                    if (many || t == 7) {
                        throw new Fault(3, word.at);
                    }
                    at++;
                    t++;
                } else if (next("road")) {
                    if (many || r.size() == 12) {
                        throw new Fault(3, word.at);
                    }
                    at++;
                    int a = number(0, t - 1);
                    int place = tokens.get(at).at;
                    int b = number(0, t - 1);
                    if (a == b) {
                        throw new Fault(2, place);
                    }
                    int l = number(1, 40);
                    r.add(new Road(a, b, l, number(0, 6)));
                } else if (next("carter")) {
                    if (many || c.size() == 5) {
                        throw new Fault(3, word.at);
                    }
                    at++;
                    int town = number(0, t - 1);
                    c.add(new int[] {town, number(0, 99)});
                } else {
                    throw new Fault(1, word.at);
                }
                want(";");
            }
        } catch (Fault f) {
            return faulty(f);
        }
        towns = t;
        roads = r;
        carters = c;
        begin();
        return towns;
    }

    int law(int n) {
        tokenise(textBegins(n, 150));
        try {
            Value v = sum(0);
            if (!atEnd()) {
                throw new Fault(1, tokens.get(at).at);
            }
            law = v;
        } catch (Fault f) {
            return faulty(f);
        }
        return 1;
    }

    private Value sum(int open) {
        Value v = product(open);
        while (next("+") || next("-")) {
            boolean plus = next("+");
            at++;
            Value a = v;
            Value b = product(open);
            v = plus ? g -> a.of(g) + b.of(g) : g -> a.of(g) - b.of(g);
        }
        return v;
    }

    private Value product(int open) {
        Value v = unit(open);
        while (next("*") || next("/") || next("%")) {
            char op = tokens.get(at).type;
            at++;
            Value a = v;
            Value b = unit(open);
            if (op == '*') {
                v = g -> a.of(g) * b.of(g);
            } else if (op == '/') {
                v = g -> b.of(g) == 0 ? 0 : (int) ((long) a.of(g) / b.of(g));
            } else {
                v = g -> b.of(g) == 0 ? 0 : (int) ((long) a.of(g) % b.of(g));
            }
        }
        return v;
    }

    private Value unit(int open) {
        Token t = tokens.get(at);
        if (!atEnd() && t.type == '0') {
            int v = number(0, 999);
            return g -> v;
        }
        if (next("(") || next("least") || next("most")) {
            if (open == 6) {
                throw new Fault(3, t.at);
            }
            at++;
            if (t.type == '(') {
                Value v = sum(open + 1);
                want(")");
                return v;
            }
            want("[");
            Value a = sum(open + 1);
            want(",");
            Value b = sum(open + 1);
            want("]");
            return t.text.equals("least") ? g -> Math.min(a.of(g), b.of(g)) : g -> Math.max(a.of(g), b.of(g));
        }
        int which = atEnd() ? -1 : List.of("length", "tired", "load", "many", "hour", "day", "week", "road").indexOf(t.text);
        if (which < 0) {
            throw new Fault(1, t.at);
        }
        at++;
        return g -> g[which];
    }

    int work(int n) {
        textBegins(n, 150);
        if (works.size() == 16) {
            tape.clear();
            return -20;
        }
        tokenise(n);
        List<Step> steps;
        try {
            steps = steps(0);
            if (!atEnd()) {
                throw new Fault(1, tokens.get(at).at);
            }
        } catch (Fault f) {
            return faulty(f);
        }
        works.add(now.copy());
        Runner runner = new Runner();
        for (Step s : steps) {
            s.run(runner);
        }
        refused = runner.refused;
        return runner.done;
    }

    private List<Step> steps(int open) {
        List<Step> out = new ArrayList<>();
        while (!atEnd() && !next("]")) {
            out.add(step(open));
            want(";");
        }
        return out;
    }

    private Step step(int open) {
        Token word = tokens.get(at);
        if (atEnd() || !List.of("set", "turn", "load", "off", "hour", "again").contains(word.text)) {
            throw new Fault(1, word.at);
        }
        if (next("again") && open == 6) {
            throw new Fault(3, word.at);
        }
        at++;
        switch (word.text) {
            case "set": {
                int c = number(0, carters.size() - 1);
                int r = number(0, roads.size() - 1);
                return x -> { if (x.begin()) { x.end(set(now, c, r)); } };
            }
            case "turn": {
                int c = number(0, carters.size() - 1);
                return x -> { if (x.begin()) { x.end(turn(now, c)); } };
            }
            case "load": {
                int c = number(0, carters.size() - 1);
                int v = number(0, 99);
                return x -> { if (x.begin()) { x.end(now.load[c] != v); now.load[c] = v; } };
            }
            case "off": {
                int r = number(0, roads.size() - 1);
                int d = number(0, 6);
                return x -> { if (x.begin()) { x.end(off(now, r, d)); } };
            }
            case "hour":
                return x -> { if (x.begin()) { x.end(now.hour < 5600); if (now.hour < 5600) { hour(now); } } };
            default: {
                int n = number(0, 60);
                want("[");
                List<Step> inner = steps(open + 1);
                want("]");
                return x -> {
                    if (x.begin()) {
                        for (int i = 0; i < n && x.begun < 300; i++) {
                            for (Step s : inner) {
                                s.run(x);
                            }
                        }
                    }
                };
            }
        }
    }

    int book(int n) {
        tokenise(textBegins(n, 60));
        List<Line> lines = new ArrayList<>();
        try {
            while (!atEnd()) {
                int place = tokens.get(at).at;
                int h = number(0, 55);
                if (lines.stream().anyMatch(l -> l.hour == h)) {
                    throw new Fault(2, place);
                }
                if (lines.size() == 6) {
                    throw new Fault(3, place);
                }
                lines.add(new Line(h, number(0, 99)));
                want(";");
            }
        } catch (Fault f) {
            return faulty(f);
        }
        book = lines;
        return lines.size();
    }

    // ---- steps

    private boolean set(State s, int c, int r) {
        Road road = roads.get(r);
        if (s.on[c] >= 0 || road.a != s.place[c] && road.b != s.place[c]) {
            return false;
        }
        s.on[c] = r;
        s.behind[c] = s.place[c];
        s.place[c] = road.a + road.b - s.place[c];
        s.gone[c] = 0;
        return true;
    }

    private boolean turn(State s, int c) {
        if (s.on[c] < 0) {
            return false;
        }
        s.gone[c] = roads.get(s.on[c]).length - s.gone[c];
        int t = s.place[c];
        s.place[c] = s.behind[c];
        s.behind[c] = t;
        return true;
    }

    private boolean off(State s, int r, int d) {
        boolean other = s.off[r] != d;
        s.off[r] = d;
        return other;
    }

    private int paceOf(int[] given) {
        return Math.max(0, Math.min(9, law.of(given)));
    }

    private int pace(State s, int r) {
        int all = 0;
        int many = 0;
        for (int c = 0; c < s.on.length; c++) {
            if (s.on[c] == r) {
                many++;
                all += s.load[c];
            }
        }
        return paceOf(new int[] {roads.get(r).length, s.tired[r], all, many, s.hour % 8, s.hour / 8 % 7, s.hour / 56, r});
    }

    private int plain(int r) {
        return paceOf(new int[] {roads.get(r).length, 0, 0, 0, 0, 0, 0, r});
    }

    private void hour(State s) {
        State ahead = s.copy();
        int day = ahead.hour / 8 % 7;
        for (int r = 0; r < roads.size(); r++) {
            if (ahead.off[r] == day) {
                s.tired[r] = 0;
                continue;
            }
            int pace = pace(ahead, r);
            boolean any = false;
            for (int c = 0; c < ahead.on.length; c++) {
                if (ahead.on[c] == r) {
                    any = true;
                    s.gone[c] = ahead.gone[c] + pace;
                    if (s.gone[c] >= roads.get(r).length) {
                        s.gone[c] = 0;
                        s.on[c] = -1;
                        s.came++;
                    }
                }
            }
            if (any) {
                s.tired[r]++;
            }
        }
        s.hour++;
    }

    // ---- refusals

    private void require(boolean right) {
        if (!right) {
            wrong++;
            throw new IllegalArgumentException();
        }
    }

    private void there(int number, int all) {
        if (number < 0 || number >= all) {
            noSuch++;
            throw new NoSuchElementException();
        }
    }

    private void towns(int... all) {
        for (int t : all) {
            there(t, towns);
        }
    }

    // ---- the other calls

    int fault() {
        return fault;
    }

    int undo() {
        if (works.isEmpty()) {
            return -1;
        }
        now = works.remove(works.size() - 1);
        refused = 0;
        return works.size();
    }

    private static int bits(int n, java.util.function.IntPredicate p) {
        int out = 0;
        for (int i = 0; i < n; i++) {
            if (p.test(i)) {
                out += 1 << i;
            }
        }
        return out;
    }

    int told(int what) {
        require(what >= 0 && what < 12);
        return new int[] {towns, roads.size(), carters.size(), now.hour, now.hour % 8, now.hour / 8 % 7, now.hour / 56,
            bits(carters.size(), c -> now.on[c] >= 0), bits(roads.size(), r -> now.off[r] == now.hour / 8 % 7),
            book.size(), refused, now.came}[what];
    }

    int town(int t, int what) {
        towns(t);
        require(what >= 0 && what < 2);
        return what == 0 ? bits(roads.size(), r -> roads.get(r).a == t || roads.get(r).b == t)
                : bits(carters.size(), c -> now.on[c] < 0 && now.place[c] == t);
    }

    int road(int r, int what) {
        there(r, roads.size());
        require(what >= 0 && what < 8);
        Road road = roads.get(r);
        return new int[] {road.a, road.b, road.length, now.off[r], now.tired[r], bits(carters.size(), c -> now.on[c] == r),
            now.off[r] == now.hour / 8 % 7 ? 0 : pace(now, r), plain(r)}[what];
    }

    int carter(int c, int what) {
        there(c, carters.size());
        require(what >= 0 && what < 5);
        return new int[] {now.place[c], now.on[c], now.gone[c], now.load[c], now.behind[c]}[what];
    }

    int would(int... g) {
        int[] least = {1, 0, 0, 0, 0, 0, 0, 0};
        int[] most = {40, 999, 495, 5, 7, 6, 100, 11};
        boolean right = true;
        for (int i = 0; i < 8; i++) {
            right &= g[i] >= least[i] && g[i] <= most[i];
        }
        require(right);
        return paceOf(g);
    }

    private int takes(int r, int h) {
        int gone = 0;
        for (int hours = 1; hours <= 999; hours++) {
            int t = h + hours - 1;
            gone += now.off[r] == t / 8 % 7 ? 0 : plainOf[r];
            if (gone >= roads.get(r).length) {
                return hours;
            }
        }
        return -1;
    }

    private int[] plainOf = {};

    private void measure() {
        plainOf = new int[roads.size()];
        for (int r = 0; r < plainOf.length; r++) {
            plainOf[r] = plain(r);
        }
    }

    int lasts(int r, int h) {
        there(r, roads.size());
        require(h >= 0 && h <= 5600);
        measure();
        return takes(r, h);
    }

    /** Hour by hour: whoever is in a town may wait in it or leave it by any road. */
    private int[] soonest(int town, int h) {
        measure();
        int[] soon = new int[towns];
        Arrays.fill(soon, -1);
        boolean[][] in = new boolean[1000][towns];
        in[0][town] = true;
        int quiet = 0;
        for (int t = 0; t < 1000 && quiet < 120; t++, quiet++) {
            for (int x = 0; x < towns; x++) {
                if (!in[t][x]) {
                    continue;
                }
                if (soon[x] < 0) {
                    soon[x] = t;
                    quiet = 0;
                }
                if (t < 999) {
                    in[t + 1][x] = true;
                }
                for (int r = 0; r < roads.size(); r++) {
                    Road road = roads.get(r);
                    if (plainOf[r] > 0 && (road.a == x || road.b == x)) {
                        int hours = takes(r, h + t);
                        if (hours >= 0 && t + hours <= 999) {
                            in[t + hours][road.a + road.b - x] = true;
                        }
                    }
                }
            }
        }
        return soon;
    }

    int soon(int a, int b, int h) {
        towns(a, b);
        require(h >= 0 && h <= 5600);
        return soonest(a, h)[b];
    }

    int way(int a, int b, int h, int what) {
        towns(a, b);
        require(h >= 0 && h <= 5600 && what >= 0 && what < 3);
        int[] soon = soonest(a, h);
        if (soon[b] < 0) {
            return -1;
        }
        List<Integer> back = new ArrayList<>();
        for (int x = b; x != a;) {
            int found = -1;
            for (int r = roads.size() - 1; r >= 0; r--) {
                Road road = roads.get(r);
                if (road.a == x || road.b == x) {
                    int y = road.a + road.b - x;
                    if (soon[y] >= 0 && takes(r, h + soon[y]) >= 0 && soon[y] + takes(r, h + soon[y]) == soon[x]) {
                        found = r;
                    }
                }
            }
            back.add(found);
            x = roads.get(found).a + roads.get(found).b - x;
        }
        if (what == 0) {
            return back.size();
        }
        return back.isEmpty() ? -1 : what == 1 ? back.get(back.size() - 1) : back.get(0);
    }

    int latest(int a, int b, int h, int n) {
        towns(a, b);
        require(h >= 0 && h <= 5600 && n >= 0 && n <= 200);
        if (a != b && soonest(a, h)[b] < 0) {
            return -1;
        }
        for (int w = n; w >= 0; w--) {
            int s = soonest(a, h + w)[b];
            if (s >= 0 && w + s <= n) {
                return w;
            }
        }
        return -1;
    }

    int day(int a, int b, int what) {
        towns(a, b);
        require(what >= 0 && what < 2);
        int best = -1;
        int least = -1;
        int mornings = 0;
        for (int h = now.hour; mornings < 7; h++) {
            if (h % 8 == 0) {
                mornings++;
                int s = soonest(a, h)[b];
                if (s >= 0 && (least < 0 || s < least)) {
                    least = s;
                    best = h / 8 % 7;
                }
            }
        }
        return what == 0 ? best : least;
    }

    int farthest(int what) {
        require(what >= 0 && what < 3);
        int[] best = {-1, -1, -1};
        for (int a = 0; a < towns; a++) {
            int[] soon = soonest(a, now.hour);
            for (int b = 0; b < towns; b++) {
                if (a != b && soon[b] >= 0 && soon[b] > best[2]) {
                    best = new int[] {a, b, soon[b]};
                }
            }
        }
        return best[what];
    }

    /** By Warshall: whether each town comes to each other one by roads of a set. */
    private boolean[][] comes(java.util.function.IntPredicate goes) {
        boolean[][] m = new boolean[towns][towns];
        for (int i = 0; i < towns; i++) {
            m[i][i] = true;
        }
        for (int r = 0; r < roads.size(); r++) {
            if (goes.test(r)) {
                m[roads.get(r).a][roads.get(r).b] = true;
                m[roads.get(r).b][roads.get(r).a] = true;
            }
        }
        for (int k = 0; k < towns; k++) {
            for (int i = 0; i < towns; i++) {
                for (int j = 0; j < towns; j++) {
                    m[i][j] |= m[i][k] && m[k][j];
                }
            }
        }
        return m;
    }

    private boolean joinedBy(int[] off, int day) {
        for (boolean[] row : comes(r -> off[r] != day)) {
            for (boolean one : row) {
                if (!one) {
                    return false;
                }
            }
        }
        return true;
    }

    private int joinedDays(int[] off) {
        int n = 0;
        for (int d = 0; d < 7; d++) {
            n += joinedBy(off, d) ? 1 : 0;
        }
        return n;
    }

    boolean joined(int day) {
        require(day >= 0 && day < 7);
        return joinedBy(now.off, day);
    }

    int part(int a, int b, int day) {
        towns(a, b);
        require(day >= 0 && day < 7);
        if (a == b) {
            return -1;
        }
        int best = 99;
        for (int set = 0; set < 1 << roads.size(); set++) {
            int cut = set;
            if (Integer.bitCount(set) >= best || (set & bits(roads.size(), r -> now.off[r] == day)) != 0) {
                continue;
            }
            if (!comes(r -> now.off[r] != day && (cut >> r & 1) == 0)[a][b]) {
                best = Integer.bitCount(set);
            }
        }
        return best;
    }

    int mend(int what) {
        require(what >= 0 && what < 3);
        int[] best = {-1, -1, joinedDays(now.off)};
        for (int r = 0; r < roads.size(); r++) {
            for (int d = 0; d < 7; d++) {
                int[] off = now.off.clone();
                off[r] = d;
                if (joinedDays(off) > best[2]) {
                    best = new int[] {r, d, joinedDays(off)};
                }
            }
        }
        return best[0] < 0 ? -1 : best[what];
    }

    int picnic(int day) {
        require(day >= 0 && day < 7);
        int best = 0;
        for (int set = 0; set < 1 << roads.size(); set++) {
            boolean right = true;
            int used = 0;
            for (int r = 0; r < roads.size(); r++) {
                if ((set >> r & 1) == 1) {
                    int ends = 1 << roads.get(r).a | 1 << roads.get(r).b;
                    right &= now.off[r] == day && (used & ends) == 0;
                    used |= ends;
                }
            }
            best = right ? Math.max(best, Integer.bitCount(set)) : best;
        }
        return best;
    }

    private int dayLater(int r, int off, int h) {
        int gone = 0;
        for (int i = 0; i < 8; i++) {
            gone += (h + i) / 8 % 7 == off ? 0 : plainOf[r];
        }
        return Math.min(gone, roads.get(r).length);
    }

    int fits(int r) {
        there(r, roads.size());
        measure();
        return bits(7, d -> book.stream().allMatch(l -> dayLater(r, d, l.hour) == l.miles));
    }

    int look(int r, int what) {
        there(r, roads.size());
        require(what >= 0 && what < 2);
        int fit = fits(r);
        if (fit == 0) {
            return -1;
        }
        int best = -1;
        int least = 99;
        for (int h = 0; h < 56; h++) {
            int hour = h;
            if (book.stream().anyMatch(l -> l.hour == hour)) {
                continue;
            }
            int worst = 0;
            for (int m = 0; m <= 99; m++) {
                int miles = m;
                worst = Math.max(worst, Integer.bitCount(bits(7, d -> (fit >> d & 1) == 1 && dayLater(r, d, hour) == miles)));
            }
            if (worst < least) {
                least = worst;
                best = h;
            }
        }
        return what == 0 ? best : least;
    }

    int inn(int v, int w, int what) {
        require(v >= 0 && v < 100 && w >= 0 && w < 100 && what >= 0 && what < 3);
        int[][][] has = {{{v - w, v - w}, {v, 0}}, {{0, v}, {0, 0}}};
        List<int[]> rests = new ArrayList<>();
        for (int i = 0; i < 2; i++) {
            for (int j = 0; j < 2; j++) {
                if (!(has[1 - i][j][0] > has[i][j][0]) && !(has[i][1 - j][1] > has[i][j][1])) {
                    rests.add(new int[] {10 * i + j, has[i][j][0] + has[i][j][1]});
                }
            }
        }
        if (what == 0) {
            return rests.size();
        }
        return rests.isEmpty() ? what - 2 : rests.get(0)[what - 1];
    }

    long luck(int n, int k, int q, int half) {
        require(n >= 0 && n <= 12 && k >= 0 && k <= 13 && q >= 0 && q <= 16 && (half == 0 || half == 1));
        BigInteger above = BigInteger.ZERO;
        for (int set = 0; set < 1 << n; set++) {
            int rest = Integer.bitCount(set);
            if (rest >= k) {
                above = above.add(BigInteger.valueOf(q).pow(rest).multiply(BigInteger.valueOf(16 - q).pow(n - rest)));
            }
        }
        BigInteger below = BigInteger.valueOf(16).pow(n);
        BigInteger common = above.gcd(below);
        return (half == 0 ? above : below).divide(common).longValueExact();
    }

    int oats(int c, int set, int n) {
        there(c, carters.size());
        require(n >= 0 && n <= 999);
        require((set & -1 << carters.size()) == 0);
        if ((set >> c & 1) == 0) {
            return 0;
        }
        for (int bound = 1000; ; bound--) {
            int all = 0;
            for (int i = 0; i < carters.size(); i++) {
                all += (set >> i & 1) * Math.min(bound, now.load[i]);
            }
            if (all <= n) {
                return Math.min(bound, now.load[c]);
            }
        }
    }

    int weariest(int what) {
        require(what >= 0 && what < 2);
        int most = Arrays.stream(now.tired).max().orElse(-1);
        for (int r = 0; r < roads.size(); r++) {
            if (now.tired[r] == most) {
                return what == 0 ? r : most;
            }
        }
        return -1;
    }

    int arrives(int c) {
        there(c, carters.size());
        State s = now.copy();
        for (int h = 0; h <= 999; h++) {
            if (s.on[c] < 0) {
                return h;
            }
            hour(s);
        }
        return -1;
    }

    int reach(int t, int n) {
        towns(t);
        require(n >= 0 && n <= 200);
        int[] soon = soonest(t, now.hour);
        return bits(towns, x -> soon[x] >= 0 && soon[x] <= n);
    }

    private long seed;

    private int draw(int by) {
        seed = seed * 1103515245L + 12345L & 0xffffffffL;
        return (int) (seed / 65536 % 32768 % by);
    }

    private State lived(int from, int q, int hours) {
        State s = now.copy();
        s.came = 0;
        seed = from & 0xffffffffL;
        for (int h = 0; h < hours; h++) {
            if (!carters.isEmpty() && !roads.isEmpty()) {
                int c = draw(carters.size());
                set(s, c, draw(roads.size()));
            }
            if (!roads.isEmpty() && draw(16) < q) {
                int r = draw(roads.size());
                off(s, r, draw(7));
            }
            hour(s);
        }
        return s;
    }

    int year(int from, int q, int hours, int what) {
        require(q >= 0 && q <= 16 && hours >= 1 && hours <= 96 && what >= 0 && what < 4);
        State s = lived(from, q, hours);
        return new int[] {s.came, bits(carters.size(), c -> s.on[c] >= 0), Arrays.stream(s.tired).sum(), joinedDays(s.off)}[what];
    }

    int span(int from, int many, int q, int hours, int what, int carter) {
        require(q >= 0 && q <= 16 && hours >= 1 && hours <= 96 && what >= 0 && what < 3 && many >= 1 && many <= 10);
        require(carter >= 0 && carter < carters.size());
        List<Integer> came = new ArrayList<>();
        int in = 0;
        for (int i = 0; i < many; i++) {
            State s = lived(from + i, q, hours);
            came.add(s.came);
            in += s.on[carter] < 0 ? 1 : 0;
        }
        return what == 0 ? java.util.Collections.min(came) : what == 1 ? java.util.Collections.max(came) : in;
    }

    private static List<State> copies(List<State> all) {
        List<State> out = new ArrayList<>();
        for (State s : all) {
            out.add(s.copy());
        }
        return out;
    }

    int image() {
        if (images.size() == 3) {
            return -1;
        }
        images.add(new Image(now.copy(), copies(works)));
        return images.size();
    }

    int restore() {
        if (images.isEmpty()) {
            return -1;
        }
        Image i = images.remove(images.size() - 1);
        now = i.state;
        works = i.works;
        refused = 0;
        return images.size();
    }

    int status(int what) {
        return what == 0 ? noSuch : what == 1 ? wrong : -1;
    }

    int count(int what) {
        return what == 0 ? images.size() : what == 1 ? tape.size() : what == 2 ? works.size() : -1;
    }
}
