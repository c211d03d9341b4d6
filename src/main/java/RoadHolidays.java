import java.util.Arrays;
import java.util.NoSuchElementException;

/** A land whose roads have each a day off. The document's numbered promises say what every call answers. */
public final class RoadHolidays {
    public static final int NONE = -1;

    private static final int TAPE_BYTES = 600;
    private static final int FED_BYTES = 20;
    private static final int LAW_BYTES = 150;
    private static final int WORK_BYTES = 150;
    private static final int BOOK_BYTES = 60;

    private static final int MOST_TOWNS = 7;
    private static final int MOST_ROADS = 12;
    private static final int MOST_CARTERS = 5;
    private static final int MOST_MILES = 40;
    private static final int MOST_LOAD = 99;
    private static final int MOST_LINES = 6;
    private static final int MOST_OPEN = 6;
    private static final int MOST_BEGUN = 200;
    private static final int MOST_WORKS = 16;
    private static final int MOST_IMAGES = 3;

    private static final int DAY_HOURS = 8;
    private static final int WEEK_DAYS = 7;
    private static final int WEEK_HOURS = 56;
    private static final int LAST_HOUR = 5600;
    private static final int MOST_HOURS = 999;

    private static final int CANT_STAND = 1;
    private static final int NO_SUCH_NUMBER = 2;
    private static final int TOO_MANY = 3;
    private static final int FAULT_LESS = 10;
    private static final int NO_ROOM_FOR_WORK = -20;

    private static final int LENGTH = 0;
    private static final int TIRED = 1;
    private static final int LOAD = 2;
    private static final int MANY = 3;
    private static final int HOUR = 4;
    private static final int DAY = 5;
    private static final int WEEK = 6;
    private static final int ROAD = 7;
    private static final int ALL_GIVEN = 8;

    private final Tape tape = new Tape();
    private final Steps steps = new Steps();
    private final Scene now = new Scene();
    private final Scene trial = new Scene();
    private final Past past = new Past();
    private final Ways ways = new Ways();

    // A text is read into the spare one, so that a FAULT leaves what stood.
    private Land land = new Land();
    private Land spareLand = new Land();
    private Law law = new Law();
    private Law spareLaw = new Law();
    private Book book = new Book();
    private Book spareBook = new Book();

    private int faultAt = NONE;
    private int refusedSteps = 0;
    private int noSuchCalls = 0;
    private int wrongCalls = 0;

    public RoadHolidays() {
        now.begin(land);
    }

    // ---- texts

    public int feed(int a, int b, int c, int d, int e) {
        if (tape.size + FED_BYTES > TAPE_BYTES) {
            return NONE;
        }
        tape.put(a);
        tape.put(b);
        tape.put(c);
        tape.put(d);
        tape.put(e);
        return tape.size;
    }

    public int land(int n) throws IllegalArgumentException {
        openText(n, TAPE_BYTES);
        if (!spareLand.readFrom(tape)) {
            return faulty();
        }
        Land old = land;
        land = spareLand;
        spareLand = old;
        law.begin();
        book.begin();
        past.begin();
        now.begin(land);
        refusedSteps = 0;
        return land.towns;
    }

    public int law(int n) throws IllegalArgumentException {
        openText(n, LAW_BYTES);
        if (!spareLaw.readFrom(tape)) {
            return faulty();
        }
        Law old = law;
        law = spareLaw;
        spareLaw = old;
        return 1;
    }

    public int work(int n) throws IllegalArgumentException {
        openText(n, WORK_BYTES);
        if (past.works >= MOST_WORKS) {
            return NO_ROOM_FOR_WORK;
        }
        if (!steps.readFrom(tape, land)) {
            return faulty();
        }
        past.keepWork(now);
        steps.run(land, law, now);
        refusedSteps = steps.refused;
        return steps.done;
    }

    public int book(int n) throws IllegalArgumentException {
        openText(n, BOOK_BYTES);
        if (!spareBook.readFrom(tape)) {
            return faulty();
        }
        Book old = book;
        book = spareBook;
        spareBook = old;
        return book.lines;
    }

    public int fault() {
        return faultAt;
    }

    public int undo() {
        if (past.works == 0) {
            return NONE;
        }
        past.takeWorkBack(now);
        refusedSteps = 0;
        return past.works;
    }

    // ---- what is told

    public int told(int what) throws IllegalArgumentException {
        require(what >= 0 && what <= 11);
        switch (what) {
            case 0: return land.towns;
            case 1: return land.roads;
            case 2: return land.carters;
            case 3: return now.hour;
            case 4: return now.hour % DAY_HOURS;
            case 5: return now.weekDay();
            case 6: return now.hour / WEEK_HOURS;
            case 7: return now.travellers(land);
            case 8: return Joins.resting(land, now, now.weekDay());
            case 9: return book.lines;
            case 10: return refusedSteps;
            default: return now.came;
        }
    }

    public int town(int town, int what) throws NoSuchElementException, IllegalArgumentException {
        requireTown(town);
        require(what == 0 || what == 1);
        return what == 0 ? land.roadsFrom(town) : now.cartersIn(land, town);
    }

    public int road(int road, int what) throws NoSuchElementException, IllegalArgumentException {
        requireRoad(road);
        require(what >= 0 && what <= 7);
        switch (what) {
            case 0: return land.oneEnd[road];
            case 1: return land.otherEnd[road];
            case 2: return land.miles[road];
            case 3: return now.off[road];
            case 4: return now.tired[road];
            case 5: return now.cartersOn(land, road);
            case 6: return now.rests(road) ? 0 : now.paceNow(land, law, road);
            default: return law.plainPace(land, road);
        }
    }

    public int carter(int carter, int what) throws NoSuchElementException, IllegalArgumentException {
        requireCarter(carter);
        require(what >= 0 && what <= 4);
        switch (what) {
            case 0: return now.to[carter];
            case 1: return now.on[carter];
            case 2: return now.gone[carter];
            case 3: return now.load[carter];
            default: return now.from[carter];
        }
    }

    public int would(int length, int tired, int load, int many, int hour, int day, int week, int road) throws IllegalArgumentException {
        require(within(length, 1, MOST_MILES) && within(tired, 0, 999));
        require(within(load, 0, MOST_CARTERS * MOST_LOAD) && within(many, 0, MOST_CARTERS));
        require(within(hour, 0, DAY_HOURS - 1) && within(day, 0, WEEK_DAYS - 1));
        require(within(week, 0, 100) && within(road, 0, MOST_ROADS - 1));
        law.given[LENGTH] = length;
        law.given[TIRED] = tired;
        law.given[LOAD] = load;
        law.given[MANY] = many;
        law.given[HOUR] = hour;
        law.given[DAY] = day;
        law.given[WEEK] = week;
        law.given[ROAD] = road;
        return law.pace();
    }

    // ---- ways

    public int lasts(int road, int h) throws NoSuchElementException, IllegalArgumentException {
        requireRoad(road);
        require(within(h, 0, LAST_HOUR));
        return Ways.taken(land.miles[road], law.plainPace(land, road), now.off[road], h);
    }

    public int soon(int town, int other, int h) throws NoSuchElementException, IllegalArgumentException {
        requireTown(town);
        requireTown(other);
        require(within(h, 0, LAST_HOUR));
        ways.measure(land, law);
        ways.search(land, now, town, h);
        return ways.soonest[other];
    }

    public int way(int town, int other, int h, int what) throws NoSuchElementException, IllegalArgumentException {
        requireTown(town);
        requireTown(other);
        require(within(h, 0, LAST_HOUR) && within(what, 0, 2));
        ways.measure(land, law);
        ways.search(land, now, town, h);
        ways.trace(land, now, other, h);
        if (what == 0) {
            return ways.many;
        }
        return what == 1 ? ways.first : ways.last;
    }

    public int latest(int town, int other, int h, int n) throws NoSuchElementException, IllegalArgumentException {
        requireTown(town);
        requireTown(other);
        require(within(h, 0, LAST_HOUR) && within(n, 0, 200));
        ways.measure(land, law);
        int best = NONE;
        int low = 0;
        int high = n;
        // Who waits longer never comes sooner: so halving finds the last hour that still does.
        for (int i = 0; i <= 200 && low <= high; i++) {
            int wait = (low + high) / 2;
            ways.search(land, now, town, h + wait);
            int hours = ways.soonest[other];
            if (hours != NONE && wait + hours <= n) {
                best = wait;
                low = wait + 1;
            } else {
                high = wait - 1;
            }
        }
        return best;
    }

    public int day(int town, int other, int what) throws NoSuchElementException, IllegalArgumentException {
        requireTown(town);
        requireTown(other);
        require(what == 0 || what == 1);
        ways.measure(land, law);
        int morning = (now.hour + DAY_HOURS - 1) / DAY_HOURS;
        int best = NONE;
        int least = NONE;
        for (int i = 0; i < WEEK_DAYS; i++) {
            ways.search(land, now, town, (morning + i) * DAY_HOURS);
            int hours = ways.soonest[other];
            if (hours != NONE && (least == NONE || hours < least)) {
                best = (morning + i) % WEEK_DAYS;
                least = hours;
            }
        }
        return what == 0 ? best : least;
    }

    public int farthest(int what) throws IllegalArgumentException {
        require(within(what, 0, 2));
        ways.measure(land, law);
        int from = NONE;
        int to = NONE;
        int most = NONE;
        for (int a = 0; a < land.towns; a++) {
            ways.search(land, now, a, now.hour);
            for (int b = 0; b < land.towns; b++) {
                if (b != a && ways.soonest[b] > most) {
                    from = a;
                    to = b;
                    most = ways.soonest[b];
                }
            }
        }
        if (what == 0) {
            return from;
        }
        return what == 1 ? to : most;
    }

    // ---- days on which towns are joined

    public boolean joined(int day) throws IllegalArgumentException {
        requireWeekDay(day);
        return Joins.joins(land, Joins.going(land, now, day));
    }

    public int part(int town, int other, int day) throws NoSuchElementException, IllegalArgumentException {
        requireTown(town);
        requireTown(other);
        requireWeekDay(day);
        return town == other ? NONE : Joins.fewestCut(land, Joins.going(land, now, day), town, other);
    }

    public int mend(int what) throws IllegalArgumentException {
        require(within(what, 0, 2));
        int days = Joins.joinedDays(land, now);
        int most = Integer.bitCount(days);
        int changed = NONE;
        int anew = NONE;
        for (int r = 0; r < land.roads; r++) {
            for (int d = 0; d < WEEK_DAYS; d++) {
                int then = Integer.bitCount(Joins.daysIfChanged(land, now, days, r, d));
                if (then > most) {
                    most = then;
                    changed = r;
                    anew = d;
                }
            }
        }
        if (what == 0 || changed == NONE) {
            return changed;
        }
        return what == 1 ? anew : most;
    }

    public int picnic(int day) throws IllegalArgumentException {
        requireWeekDay(day);
        return Joins.mostApart(land, Joins.resting(land, now, day));
    }

    // ---- the book

    public int fits(int road) throws NoSuchElementException {
        requireRoad(road);
        return book.fitting(land.miles[road], law.plainPace(land, road));
    }

    public int look(int road, int what) throws NoSuchElementException, IllegalArgumentException {
        requireRoad(road);
        require(what == 0 || what == 1);
        book.lookFor(land.miles[road], law.plainPace(land, road));
        return what == 0 ? book.bestHour : book.bestLeft;
    }

    // ---- games, chances, shares

    public int inn(int v, int w, int what) throws IllegalArgumentException {
        require(within(v, 0, 99) && within(w, 0, 99) && within(what, 0, 2));
        int many = 0;
        int first = NONE;
        int together = 0;
        for (int one = 0; one <= 1; one++) {
            for (int other = 0; other <= 1; other++) {
                boolean rests = innShare(v, w, one, other) >= innShare(v, w, 1 - one, other)
                        && innShare(v, w, other, one) >= innShare(v, w, 1 - other, one);
                if (rests && many == 0) {
                    first = 10 * one + other;
                    together = innShare(v, w, one, other) + innShare(v, w, other, one);
                }
                many += rests ? 1 : 0;
            }
        }
        if (what == 0) {
            return many;
        }
        return what == 1 ? first : together;
    }

    /** What he has who does mine (0 he sets out, 1 he waits) while the other one does his. */
    private static int innShare(int v, int w, int mine, int his) {
        if (mine == 1) {
            return 0;
        }
        return his == 1 ? v : v - w;
    }

    public long luck(int n, int k, int q, int half) throws IllegalArgumentException {
        require(within(n, 0, 12) && within(k, 0, 13) && within(q, 0, 16) && within(half, 0, 1));
        long above = 0;
        long choices = 1;
        for (int rest = 0; rest <= n; rest++) {
            if (rest >= k) {
                above += choices * power(q, rest) * power(16 - q, n - rest);
            }
            choices = choices * (n - rest) / (rest + 1);
        }
        long below = power(16, n);
        // All that is below is a power of two, so halving both gives the least terms.
        for (int i = 0; i < 48 && above % 2 == 0 && below % 2 == 0; i++) {
            above /= 2;
            below /= 2;
        }
        return half == 0 ? above : below;
    }

    private static long power(int base, int exponent) {
        long out = 1;
        for (int i = 0; i < exponent; i++) {
            out *= base;
        }
        return out;
    }

    public int oats(int carter, int carters, int n) throws NoSuchElementException, IllegalArgumentException {
        requireCarter(carter);
        require(carters >= 0 && carters < 1 << land.carters && within(n, 0, 999));
        if ((carters >> carter & 1) == 0) {
            return 0;
        }
        int bound = 0;
        for (int next = 1; next <= MOST_LOAD && given(carters, next) <= n; next++) {
            bound = next;
        }
        return Math.min(now.load[carter], bound);
    }

    /** What the told carters get together by a bound. */
    private int given(int carters, int bound) {
        int all = 0;
        for (int c = 0; c < land.carters; c++) {
            if ((carters >> c & 1) == 1) {
                all += Math.min(now.load[c], bound);
            }
        }
        return all;
    }

    // ---- courses of hours

    public int weariest(int what) throws IllegalArgumentException {
        require(what == 0 || what == 1);
        int weary = NONE;
        int most = NONE;
        for (int r = 0; r < land.roads; r++) {
            if (now.tired[r] > most) {
                weary = r;
                most = now.tired[r];
            }
        }
        return what == 0 ? weary : most;
    }

    public int arrives(int carter) throws NoSuchElementException {
        requireCarter(carter);
        int r = now.on[carter];
        if (r == NONE) {
            return 0;
        }
        trial.become(now);
        // Nobody sets out, so no other road can change what happens on his.
        for (int hours = 1; hours <= MOST_HOURS; hours++) {
            trial.passOn(land, law, r);
            trial.hour++;
            if (trial.on[carter] == NONE) {
                return hours;
            }
        }
        return NONE;
    }

    public int reach(int town, int n) throws NoSuchElementException, IllegalArgumentException {
        requireTown(town);
        require(within(n, 0, 200));
        ways.measure(land, law);
        ways.search(land, now, town, now.hour);
        int towns = 0;
        for (int t = 0; t < land.towns; t++) {
            if (ways.soonest[t] != NONE && ways.soonest[t] <= n) {
                towns |= 1 << t;
            }
        }
        return towns;
    }

    public int year(int seed, int q, int hours, int what) throws IllegalArgumentException {
        require(within(q, 0, 16) && within(hours, 1, 96) && within(what, 0, 3));
        liveYear(seed, q, hours);
        switch (what) {
            case 0: return trial.came - now.came;
            case 1: return trial.travellers(land);
            case 2: return trial.tiredTogether(land);
            default: return Integer.bitCount(Joins.joinedDays(land, trial));
        }
    }

    public int span(int seed, int many, int q, int hours, int what, int carter) throws IllegalArgumentException {
        require(within(many, 1, 10) && within(q, 0, 16) && within(hours, 1, 96));
        require(within(what, 0, 2) && within(carter, 0, land.carters - 1));
        int fewest = 0;
        int most = 0;
        int inTown = 0;
        for (int i = 0; i < many; i++) {
            liveYear(seed + i, q, hours);
            int came = trial.came - now.came;
            fewest = i == 0 ? came : Math.min(fewest, came);
            most = Math.max(most, came);
            inTown += trial.on[carter] == NONE ? 1 : 0;
        }
        if (what == 0) {
            return fewest;
        }
        return what == 1 ? most : inTown;
    }

    /** Leaves in the trial how all is behind a year that begins now. */
    private void liveYear(int seed, int q, int hours) {
        trial.become(now);
        trial.seed = seed;
        for (int i = 0; i < hours; i++) {
            trial.drawHour(land, q);
            trial.passHour(land, law);
        }
    }

    // ---- images and counts

    public int image() {
        if (past.images >= MOST_IMAGES) {
            return NONE;
        }
        past.keepImage(now);
        return past.images;
    }

    public int restore() {
        if (past.images == 0) {
            return NONE;
        }
        past.takeImageBack(now);
        refusedSteps = 0;
        return past.images;
    }

    public int status(int what) {
        if (what == 0) {
            return noSuchCalls;
        }
        return what == 1 ? wrongCalls : NONE;
    }

    public int count(int what) {
        switch (what) {
            case 0: return past.images;
            case 1: return tape.size;
            case 2: return past.works;
            default: return NONE;
        }
    }

    // ---- refusals

    private static boolean within(int value, int least, int most) {
        return value >= least && value <= most;
    }

    private void require(boolean right) {
        if (!right) {
            wrongCalls++;
            throw new IllegalArgumentException("an argument is none such");
        }
    }

    private void requireWeekDay(int day) {
        require(within(day, 0, WEEK_DAYS - 1));
    }

    private void requireThere(int number, int all) {
        if (number < 0 || number >= all) {
            noSuchCalls++;
            throw new NoSuchElementException("there is none such");
        }
    }

    private void requireTown(int town) {
        requireThere(town, land.towns);
    }

    private void requireRoad(int road) {
        requireThere(road, land.roads);
    }

    private void requireCarter(int carter) {
        requireThere(carter, land.carters);
    }

    /** From here on the text is the latest one: without a FAULT, until reading finds one. */
    private void openText(int n, int most) {
        require(within(n, 0, Math.min(tape.size, most)));
        tape.open(n);
        faultAt = NONE;
    }

    private int faulty() {
        faultAt = tape.faultAt;
        return tape.faultKind - FAULT_LESS;
    }

    /** The bytes that were fed, and the reading of a text that stands at their start. */
    private static final class Tape {
        private static final int BLANK = 32;
        private static final int NUMBER_BOUND = 100000;

        final int[] bytes = new int[TAPE_BYTES];
        int size = 0;
        int end = 0;
        int place = 0;
        int tokenAt = 0;
        int value = 0;
        int faultKind = 0;
        int faultAt = NONE;

        void put(int number) {
            for (int shift = 24; shift >= 0; shift -= 8) {
                if (size < TAPE_BYTES) {
                    bytes[size] = number >>> shift & 255;
                    size++;
                }
            }
        }

        /** The bytes stay readable until they are fed over, though the tape counts as empty. */
        void open(int n) {
            size = 0;
            end = n;
            tokenAt = 0;
            faultKind = 0;
            faultAt = NONE;
            moveTo(0);
        }

        /** Blanks are passed at once, so that the place is always the first byte of what comes next. */
        private void moveTo(int next) {
            place = next;
            while (place < end && bytes[place] == BLANK) {
                place++;
            }
        }

        boolean ends() {
            return place >= end;
        }

        boolean stands(char sign) {
            return place < end && bytes[place] == sign;
        }

        boolean digitStands() {
            return place < end && isDigit(bytes[place]);
        }

        private static boolean isDigit(int sign) {
            return sign >= '0' && sign <= '9';
        }

        private static boolean isLetter(int sign) {
            return sign >= 'a' && sign <= 'z';
        }

        boolean takes(char sign) {
            if (!stands(sign)) {
                return false;
            }
            tokenAt = place;
            moveTo(place + 1);
            return true;
        }

        boolean needs(char sign) {
            return takes(sign) || failHere(CANT_STAND);
        }

        /** Takes the word, if all letters that stand there are this word. */
        boolean takesWord(String word) {
            int length = 0;
            while (place + length < end && isLetter(bytes[place + length])) {
                length++;
            }
            if (length != word.length()) {
                return false;
            }
            for (int i = 0; i < length; i++) {
                if (bytes[place + i] != word.charAt(i)) {
                    return false;
                }
            }
            tokenAt = place;
            moveTo(place + length);
            return true;
        }

        /** The number that must stand next is in value then. */
        boolean needsNumber(int least, int most) {
            if (!digitStands()) {
                return failHere(CANT_STAND);
            }
            tokenAt = place;
            value = 0;
            int next = place;
            while (next < end && isDigit(bytes[next])) {
                // However many digits stand there, the bound keeps it too great and from wrapping.
                value = Math.min(NUMBER_BOUND, value * 10 + bytes[next] - '0');
                next++;
            }
            moveTo(next);
            return value >= least && value <= most || failAtToken(NO_SUCH_NUMBER);
        }

        boolean failHere(int kind) {
            faultKind = kind;
            faultAt = place;
            return false;
        }

        boolean failAtToken(int kind) {
            faultKind = kind;
            faultAt = tokenAt;
            return false;
        }
    }

    /** Towns, roads and carters as they were told at first. */
    private static final class Land {
        final int[] oneEnd = new int[MOST_ROADS];
        final int[] otherEnd = new int[MOST_ROADS];
        final int[] miles = new int[MOST_ROADS];
        final int[] toldOff = new int[MOST_ROADS];
        final int[] toldTown = new int[MOST_CARTERS];
        final int[] toldLoad = new int[MOST_CARTERS];
        int towns = 0;
        int roads = 0;
        int carters = 0;

        /** No count of clauses is needed: a kind of them is too many long ahead of a 61st. */
        boolean readFrom(Tape in) {
            towns = 0;
            roads = 0;
            carters = 0;
            for (int i = 0; i < TAPE_BYTES && !in.ends(); i++) {
                if (!readClause(in) || !in.needs(';')) {
                    return false;
                }
            }
            return true;
        }

        private boolean readClause(Tape in) {
            if (in.takesWord("town")) {
                return addTown(in);
            }
            if (in.takesWord("road")) {
                return addRoad(in);
            }
            if (in.takesWord("carter")) {
                return addCarter(in);
            }
            return in.failHere(CANT_STAND);
        }

        private boolean addTown(Tape in) {
            if (towns >= MOST_TOWNS) {
                return in.failAtToken(TOO_MANY);
            }
            towns++;
            return true;
        }

        private boolean addRoad(Tape in) {
            if (roads >= MOST_ROADS) {
                return in.failAtToken(TOO_MANY);
            }
            if (!in.needsNumber(0, towns - 1)) {
                return false;
            }
            oneEnd[roads] = in.value;
            if (!in.needsNumber(0, towns - 1)) {
                return false;
            }
            otherEnd[roads] = in.value;
            if (oneEnd[roads] == otherEnd[roads]) {
                return in.failAtToken(NO_SUCH_NUMBER);
            }
            if (!in.needsNumber(1, MOST_MILES)) {
                return false;
            }
            miles[roads] = in.value;
            if (!in.needsNumber(0, WEEK_DAYS - 1)) {
                return false;
            }
            toldOff[roads] = in.value;
            roads++;
            return true;
        }

        private boolean addCarter(Tape in) {
            if (carters >= MOST_CARTERS) {
                return in.failAtToken(TOO_MANY);
            }
            if (!in.needsNumber(0, towns - 1)) {
                return false;
            }
            toldTown[carters] = in.value;
            if (!in.needsNumber(0, MOST_LOAD)) {
                return false;
            }
            toldLoad[carters] = in.value;
            carters++;
            return true;
        }

        boolean touches(int r, int t) {
            return oneEnd[r] == t || otherEnd[r] == t;
        }

        int acrossFrom(int r, int t) {
            return oneEnd[r] == t ? otherEnd[r] : oneEnd[r];
        }

        int endsAsBits(int r) {
            return 1 << oneEnd[r] | 1 << otherEnd[r];
        }

        int roadsFrom(int t) {
            int bits = 0;
            for (int r = 0; r < roads; r++) {
                bits |= touches(r, t) ? 1 << r : 0;
            }
            return bits;
        }
    }

    /** How fast a road goes: the text's values and signs in the order in which a stack wants them. */
    private static final class Law {
        private static final int NUMBER = 0;
        private static final int GIVEN = 1;
        private static final int PLUS = 2;
        private static final int MINUS = 3;
        private static final int TIMES = 4;
        private static final int DIVIDED = 5;
        private static final int LEAVES = 6;
        private static final int LEAST = 7;
        private static final int MOST = 8;
        private static final int PACE_WITHOUT = 2;
        private static final int MOST_NUMBER = 999;
        private static final int MOST_PACE = 9;

        final int[] kinds = new int[LAW_BYTES];
        final int[] values = new int[LAW_BYTES];
        final int[] stack = new int[LAW_BYTES];
        final int[] given = new int[ALL_GIVEN];
        int size = 0;

        Law() {
            values[0] = PACE_WITHOUT;
            size = 1;
        }

        void begin() {
            size = 0;
            put(NUMBER, PACE_WITHOUT);
        }

        boolean readFrom(Tape in) {
            size = 0;
            return readSum(in, 0) && (in.ends() || in.failHere(CANT_STAND));
        }

        /** Each value and each sign takes a byte of the text at least, so there is always room. */
        private boolean put(int kind, int value) {
            if (size < LAW_BYTES) {
                kinds[size] = kind;
                values[size] = value;
                size++;
            }
            return true;
        }

        private boolean readSum(Tape in, int open) {
            if (!readProduct(in, open)) {
                return false;
            }
            for (int i = 0; i < LAW_BYTES; i++) {
                int sign = in.takes('+') ? PLUS : in.takes('-') ? MINUS : NONE;
                if (sign == NONE) {
                    return true;
                }
                if (!readProduct(in, open)) {
                    return false;
                }
                put(sign, 0);
            }
            return true;
        }

        private boolean readProduct(Tape in, int open) {
            if (!readUnit(in, open)) {
                return false;
            }
            for (int i = 0; i < LAW_BYTES; i++) {
                int sign = in.takes('*') ? TIMES : in.takes('/') ? DIVIDED : in.takes('%') ? LEAVES : NONE;
                if (sign == NONE) {
                    return true;
                }
                if (!readUnit(in, open)) {
                    return false;
                }
                put(sign, 0);
            }
            return true;
        }

        private boolean readUnit(Tape in, int open) {
            if (in.digitStands()) {
                return in.needsNumber(0, MOST_NUMBER) && put(NUMBER, in.value);
            }
            if (in.takes('(')) {
                return opens(in, open) && readSum(in, open + 1) && in.needs(')');
            }
            if (in.takesWord("least")) {
                return opens(in, open) && readTwo(in, open + 1) && put(LEAST, 0);
            }
            if (in.takesWord("most")) {
                return opens(in, open) && readTwo(in, open + 1) && put(MOST, 0);
            }
            int which = readGiven(in);
            return which == NONE ? in.failHere(CANT_STAND) : put(GIVEN, which);
        }

        private boolean opens(Tape in, int open) {
            return open < MOST_OPEN || in.failAtToken(TOO_MANY);
        }

        private boolean readTwo(Tape in, int open) {
            return in.needs('[') && readSum(in, open) && in.needs(',') && readSum(in, open) && in.needs(']');
        }

        private static int readGiven(Tape in) {
            if (in.takesWord("length")) {
                return LENGTH;
            }
            if (in.takesWord("tired")) {
                return TIRED;
            }
            if (in.takesWord("load")) {
                return LOAD;
            }
            if (in.takesWord("many")) {
                return MANY;
            }
            if (in.takesWord("hour")) {
                return HOUR;
            }
            if (in.takesWord("day")) {
                return DAY;
            }
            if (in.takesWord("week")) {
                return WEEK;
            }
            return in.takesWord("road") ? ROAD : NONE;
        }

        /** By what is given now. */
        int pace() {
            int top = 0;
            for (int i = 0; i < size && top < LAW_BYTES; i++) {
                if (kinds[i] == NUMBER) {
                    stack[top] = values[i];
                    top++;
                } else if (kinds[i] == GIVEN) {
                    stack[top] = given[values[i]];
                    top++;
                } else if (top >= 2) {
                    top--;
                    stack[top - 1] = outOf(kinds[i], stack[top - 1], stack[top]);
                }
            }
            return Math.max(0, Math.min(MOST_PACE, stack[0]));
        }

        private static int outOf(int kind, int a, int b) {
            switch (kind) {
                case PLUS: return a + b;
                case MINUS: return a - b;
                case TIMES: return a * b;
                case DIVIDED: return b == 0 ? 0 : a / b;
                case LEAVES: return b == 0 ? 0 : a % b;
                case LEAST: return a <= b ? a : b;
                default: return a >= b ? a : b;
            }
        }

        int plainPace(Land land, int r) {
            Arrays.fill(given, 0);
            given[LENGTH] = land.miles[r];
            given[ROAD] = r;
            return pace();
        }
    }

    /** All that work changes: the hour, where carters are, how roads rest and tire. */
    private static final class Scene {
        static final int CELLS = 2 + 2 * MOST_ROADS + 5 * MOST_CARTERS;

        final int[] off = new int[MOST_ROADS];
        final int[] tired = new int[MOST_ROADS];
        final int[] to = new int[MOST_CARTERS];
        final int[] from = new int[MOST_CARTERS];
        final int[] on = new int[MOST_CARTERS];
        final int[] gone = new int[MOST_CARTERS];
        final int[] load = new int[MOST_CARTERS];
        final int[] copy = new int[CELLS];
        int hour = 0;
        int came = 0;
        int seed = 0;

        void begin(Land land) {
            hour = 0;
            came = 0;
            System.arraycopy(land.toldOff, 0, off, 0, MOST_ROADS);
            Arrays.fill(tired, 0);
            System.arraycopy(land.toldTown, 0, to, 0, MOST_CARTERS);
            System.arraycopy(land.toldTown, 0, from, 0, MOST_CARTERS);
            Arrays.fill(on, NONE);
            Arrays.fill(gone, 0);
            System.arraycopy(land.toldLoad, 0, load, 0, MOST_CARTERS);
        }

        void saveIn(int[] row) {
            row[0] = hour;
            row[1] = came;
            int at = 2;
            System.arraycopy(off, 0, row, at, MOST_ROADS);
            at += MOST_ROADS;
            System.arraycopy(tired, 0, row, at, MOST_ROADS);
            at += MOST_ROADS;
            System.arraycopy(to, 0, row, at, MOST_CARTERS);
            at += MOST_CARTERS;
            System.arraycopy(from, 0, row, at, MOST_CARTERS);
            at += MOST_CARTERS;
            System.arraycopy(on, 0, row, at, MOST_CARTERS);
            at += MOST_CARTERS;
            System.arraycopy(gone, 0, row, at, MOST_CARTERS);
            at += MOST_CARTERS;
            System.arraycopy(load, 0, row, at, MOST_CARTERS);
        }

        void takeFrom(int[] row) {
            hour = row[0];
            came = row[1];
            int at = 2;
            System.arraycopy(row, at, off, 0, MOST_ROADS);
            at += MOST_ROADS;
            System.arraycopy(row, at, tired, 0, MOST_ROADS);
            at += MOST_ROADS;
            System.arraycopy(row, at, to, 0, MOST_CARTERS);
            at += MOST_CARTERS;
            System.arraycopy(row, at, from, 0, MOST_CARTERS);
            at += MOST_CARTERS;
            System.arraycopy(row, at, on, 0, MOST_CARTERS);
            at += MOST_CARTERS;
            System.arraycopy(row, at, gone, 0, MOST_CARTERS);
            at += MOST_CARTERS;
            System.arraycopy(row, at, load, 0, MOST_CARTERS);
        }

        void become(Scene other) {
            other.saveIn(copy);
            takeFrom(copy);
        }

        int weekDay() {
            return hour / DAY_HOURS % WEEK_DAYS;
        }

        boolean rests(int r) {
            return off[r] == weekDay();
        }

        int travellers(Land land) {
            int bits = 0;
            for (int c = 0; c < land.carters; c++) {
                bits |= on[c] == NONE ? 0 : 1 << c;
            }
            return bits;
        }

        int cartersIn(Land land, int t) {
            int bits = 0;
            for (int c = 0; c < land.carters; c++) {
                bits |= on[c] == NONE && to[c] == t ? 1 << c : 0;
            }
            return bits;
        }

        int cartersOn(Land land, int r) {
            int bits = 0;
            for (int c = 0; c < land.carters; c++) {
                bits |= on[c] == r ? 1 << c : 0;
            }
            return bits;
        }

        int tiredTogether(Land land) {
            int all = 0;
            for (int r = 0; r < land.roads; r++) {
                all += tired[r];
            }
            return all;
        }

        int paceNow(Land land, Law law, int r) {
            int all = 0;
            int many = 0;
            for (int c = 0; c < land.carters; c++) {
                if (on[c] == r) {
                    all += load[c];
                    many++;
                }
            }
            law.given[LENGTH] = land.miles[r];
            law.given[TIRED] = tired[r];
            law.given[LOAD] = all;
            law.given[MANY] = many;
            law.given[HOUR] = hour % DAY_HOURS;
            law.given[DAY] = weekDay();
            law.given[WEEK] = hour / WEEK_HOURS;
            law.given[ROAD] = r;
            return law.pace();
        }

        boolean setOut(Land land, int c, int r) {
            if (on[c] != NONE || !land.touches(r, to[c])) {
                return false;
            }
            on[c] = r;
            gone[c] = 0;
            from[c] = to[c];
            to[c] = land.acrossFrom(r, from[c]);
            return true;
        }

        boolean turnRound(Land land, int c) {
            if (on[c] == NONE) {
                return false;
            }
            gone[c] = land.miles[on[c]] - gone[c];
            int back = from[c];
            from[c] = to[c];
            to[c] = back;
            return true;
        }

        boolean loadAnew(int c, int n) {
            if (load[c] == n) {
                return false;
            }
            load[c] = n;
            return true;
        }

        boolean offAnew(int r, int d) {
            if (off[r] == d) {
                return false;
            }
            off[r] = d;
            return true;
        }

        void passHour(Land land, Law law) {
            for (int r = 0; r < land.roads; r++) {
                passOn(land, law, r);
            }
            hour++;
        }

        /** What the hour does on one road; carters on others don't matter to it. */
        void passOn(Land land, Law law, int r) {
            if (rests(r)) {
                tired[r] = 0;
                return;
            }
            if (cartersOn(land, r) == 0) {
                return;
            }
            int pace = paceNow(land, law, r);
            for (int c = 0; c < land.carters; c++) {
                if (on[c] == r) {
                    goOn(c, pace, land.miles[r]);
                }
            }
            tired[r]++;
        }

        private void goOn(int c, int pace, int length) {
            gone[c] += pace;
            if (gone[c] >= length) {
                on[c] = NONE;
                gone[c] = 0;
                came++;
            }
        }

        /** What is drawn ahead of an hour of a year. */
        void drawHour(Land land, int q) {
            if (land.roads == 0) {
                return;
            }
            if (land.carters > 0) {
                int c = draw(land.carters);
                int r = draw(land.roads);
                setOut(land, c, r);
            }
            if (draw(16) < q) {
                int r = draw(land.roads);
                int d = draw(WEEK_DAYS);
                offAnew(r, d);
            }
        }

        private int draw(int by) {
            seed = seed * 1103515245 + 12345;
            return by > 0 ? (seed >>> 16 & 32767) % by : 0;
        }
    }

    /** A work's steps in a row; an again knows where it ends, its end where it began. */
    private static final class Steps {
        private static final int SET = 0;
        private static final int TURN = 1;
        private static final int LOADED = 2;
        private static final int OFF = 3;
        private static final int PASS = 4;
        private static final int AGAIN = 5;
        private static final int END = 6;
        private static final int MOST_AGAIN = 60;
        private static final int MOST_MOVES = 100000;

        final int[] kinds = new int[WORK_BYTES];
        final int[] firsts = new int[WORK_BYTES];
        final int[] seconds = new int[WORK_BYTES];
        final int[] turnsLeft = new int[MOST_OPEN];
        int size = 0;
        int level = 0;
        int done = 0;
        int refused = 0;

        boolean readFrom(Tape in, Land land) {
            size = 0;
            return readSteps(in, land, 0) && (in.ends() || in.failHere(CANT_STAND));
        }

        private boolean readSteps(Tape in, Land land, int open) {
            for (int i = 0; i < WORK_BYTES && !in.ends() && !in.stands(']'); i++) {
                if (!readStep(in, land, open) || !in.needs(';')) {
                    return false;
                }
            }
            return true;
        }

        private boolean readStep(Tape in, Land land, int open) {
            if (in.takesWord("set")) {
                return readTwo(in, SET, land.carters - 1, land.roads - 1);
            }
            if (in.takesWord("turn")) {
                return in.needsNumber(0, land.carters - 1) && put(TURN, in.value, 0);
            }
            if (in.takesWord("load")) {
                return readTwo(in, LOADED, land.carters - 1, MOST_LOAD);
            }
            if (in.takesWord("off")) {
                return readTwo(in, OFF, land.roads - 1, WEEK_DAYS - 1);
            }
            if (in.takesWord("hour")) {
                return put(PASS, 0, 0);
            }
            return in.takesWord("again") ? readAgain(in, land, open) : in.failHere(CANT_STAND);
        }

        private boolean readTwo(Tape in, int kind, int mostFirst, int mostSecond) {
            if (!in.needsNumber(0, mostFirst)) {
                return false;
            }
            int first = in.value;
            return in.needsNumber(0, mostSecond) && put(kind, first, in.value);
        }

        private boolean readAgain(Tape in, Land land, int open) {
            if (open >= MOST_OPEN) {
                return in.failAtToken(TOO_MANY);
            }
            if (!in.needsNumber(0, MOST_AGAIN)) {
                return false;
            }
            int start = size;
            put(AGAIN, in.value, 0);
            if (!in.needs('[') || !readSteps(in, land, open + 1) || !in.needs(']')) {
                return false;
            }
            if (start < WORK_BYTES) {
                seconds[start] = size;
            }
            return put(END, start, 0);
        }

        /** Each step takes some bytes of the text, so there is always room. */
        private boolean put(int kind, int first, int second) {
            if (size < WORK_BYTES) {
                kinds[size] = kind;
                firsts[size] = first;
                seconds[size] = second;
                size++;
            }
            return true;
        }

        void run(Land land, Law law, Scene scene) {
            done = 0;
            refused = 0;
            level = 0;
            int begun = 0;
            int at = 0;
            for (int i = 0; i < MOST_MOVES && at < size; i++) {
                if (kinds[at] == END) {
                    at = behindTurn(at);
                    continue;
                }
                if (begun >= MOST_BEGUN) {
                    return;
                }
                begun++;
                if (kinds[at] == AGAIN) {
                    at = behindAgain(at);
                    continue;
                }
                if (doStep(land, law, scene, at)) {
                    done++;
                } else {
                    refused++;
                }
                at++;
            }
        }

        /** An again without turns or steps is passed by. */
        private int behindAgain(int at) {
            int end = seconds[at];
            if (firsts[at] == 0 || end == at + 1 || level >= MOST_OPEN) {
                return end + 1;
            }
            turnsLeft[level] = firsts[at];
            level++;
            return at + 1;
        }

        private int behindTurn(int end) {
            if (level == 0) {
                return end + 1;
            }
            turnsLeft[level - 1]--;
            if (turnsLeft[level - 1] > 0) {
                return firsts[end] + 1;
            }
            level--;
            return end + 1;
        }

        private boolean doStep(Land land, Law law, Scene scene, int at) {
            int first = firsts[at];
            int second = seconds[at];
            switch (kinds[at]) {
                case SET: return scene.setOut(land, first, second);
                case TURN: return scene.turnRound(land, first);
                case LOADED: return scene.loadAnew(first, second);
                case OFF: return scene.offAnew(first, second);
                default: break;
            }
            if (scene.hour >= LAST_HOUR) {
                return false;
            }
            scene.passHour(land, law);
            return true;
        }
    }

    /** Who set out when and had gone how far a day later. */
    private static final class Book {
        final int[] hours = new int[MOST_LINES];
        final int[] gone = new int[MOST_LINES];
        final int[] goneByOff = new int[WEEK_DAYS];
        int lines = 0;
        int bestHour = NONE;
        int bestLeft = NONE;

        void begin() {
            lines = 0;
        }

        boolean readFrom(Tape in) {
            lines = 0;
            for (int i = 0; i < BOOK_BYTES && !in.ends(); i++) {
                if (!readLine(in) || !in.needs(';')) {
                    return false;
                }
            }
            return true;
        }

        private boolean readLine(Tape in) {
            if (!in.needsNumber(0, WEEK_HOURS - 1)) {
                return false;
            }
            // Of two FAULTS at one place the least one counts, so a number told twice comes first.
            int hour = in.value;
            if (isTold(hour)) {
                return in.failAtToken(NO_SUCH_NUMBER);
            }
            if (lines >= MOST_LINES) {
                return in.failAtToken(TOO_MANY);
            }
            if (!in.needsNumber(0, 99)) {
                return false;
            }
            hours[lines] = hour;
            gone[lines] = in.value;
            lines++;
            return true;
        }

        private boolean isTold(int hour) {
            for (int i = 0; i < lines; i++) {
                if (hours[i] == hour) {
                    return true;
                }
            }
            return false;
        }

        private static int dayLater(int length, int pace, int off, int hour) {
            int today = hour / DAY_HOURS;
            int tomorrow = (today + 1) % WEEK_DAYS;
            int begun = hour % DAY_HOURS;
            int going = (today == off ? 0 : DAY_HOURS - begun) + (tomorrow == off ? 0 : begun);
            return Math.min(length, pace * going);
        }

        int fitting(int length, int pace) {
            int days = 0;
            for (int off = 0; off < WEEK_DAYS; off++) {
                boolean right = true;
                for (int i = 0; i < lines; i++) {
                    right = right && dayLater(length, pace, off, hours[i]) == gone[i];
                }
                days |= right ? 1 << off : 0;
            }
            return days;
        }

        /** Leaves the hour and how many days are left at the worst. */
        void lookFor(int length, int pace) {
            int days = fitting(length, pace);
            bestHour = NONE;
            bestLeft = NONE;
            if (days == 0) {
                return;
            }
            for (int hour = 0; hour < WEEK_HOURS; hour++) {
                if (isTold(hour)) {
                    continue;
                }
                for (int off = 0; off < WEEK_DAYS; off++) {
                    goneByOff[off] = dayLater(length, pace, off, hour);
                }
                int left = mostAlike(days);
                if (bestLeft == NONE || left < bestLeft) {
                    bestHour = hour;
                    bestLeft = left;
                }
            }
        }

        private int mostAlike(int days) {
            int most = 0;
            for (int one = 0; one < WEEK_DAYS; one++) {
                int alike = 0;
                for (int other = 0; other < WEEK_DAYS; other++) {
                    boolean fit = (days >> other & 1) == 1;
                    alike += fit && goneByOff[other] == goneByOff[one] ? 1 : 0;
                }
                most = Math.max(most, alike);
            }
            return most;
        }
    }

    /** The soonest ways from one town. No road lets who sets out later come sooner, so waiting never helps. */
    private static final class Ways {
        final int[] paces = new int[MOST_ROADS];
        final int[] soonest = new int[MOST_TOWNS];
        int many = NONE;
        int first = NONE;
        int last = NONE;

        static int taken(int length, int pace, int off, int h) {
            if (pace <= 0) {
                return NONE;
            }
            int left = (length + pace - 1) / pace;
            int hour = h;
            for (int days = 0; days <= MOST_HOURS / DAY_HOURS + 1; days++) {
                int restOfDay = DAY_HOURS - hour % DAY_HOURS;
                if (hour / DAY_HOURS % WEEK_DAYS != off) {
                    if (left <= restOfDay) {
                        int hours = hour + left - h;
                        return hours <= MOST_HOURS ? hours : NONE;
                    }
                    left -= restOfDay;
                }
                hour += restOfDay;
            }
            return NONE;
        }

        void measure(Land land, Law law) {
            for (int r = 0; r < land.roads; r++) {
                paces[r] = law.plainPace(land, r);
            }
        }

        void search(Land land, Scene scene, int town, int h) {
            Arrays.fill(soonest, NONE);
            soonest[town] = 0;
            int settled = 0;
            for (int i = 0; i < land.towns; i++) {
                int near = nearest(land, settled);
                if (near == NONE) {
                    return;
                }
                settled |= 1 << near;
                leave(land, scene, near, h);
            }
        }

        private int nearest(Land land, int settled) {
            int near = NONE;
            for (int t = 0; t < land.towns; t++) {
                boolean open = (settled >> t & 1) == 0 && soonest[t] != NONE;
                if (open && (near == NONE || soonest[t] < soonest[near])) {
                    near = t;
                }
            }
            return near;
        }

        private void leave(Land land, Scene scene, int town, int h) {
            for (int r = 0; r < land.roads; r++) {
                if (land.touches(r, town)) {
                    int there = land.acrossFrom(r, town);
                    int hours = by(land, scene, r, town, h);
                    if (hours != NONE && (soonest[there] == NONE || hours < soonest[there])) {
                        soonest[there] = hours;
                    }
                }
            }
        }

        /** Behind how many hours one is across who takes the road as soon as he can be in the town. */
        private int by(Land land, Scene scene, int r, int town, int h) {
            if (soonest[town] == NONE) {
                return NONE;
            }
            int hours = taken(land.miles[r], paces[r], scene.off[r], h + soonest[town]);
            if (hours == NONE || soonest[town] + hours > MOST_HOURS) {
                return NONE;
            }
            return soonest[town] + hours;
        }

        /** Behind a search: how many roads lead to the town, the first and the last of them. */
        void trace(Land land, Scene scene, int town, int h) {
            first = NONE;
            last = NONE;
            many = soonest[town] == NONE ? NONE : 0;
            int at = town;
            for (int i = 0; i < MOST_TOWNS; i++) {
                int r = lastRoad(land, scene, at, h);
                if (r == NONE) {
                    return;
                }
                last = last == NONE ? r : last;
                first = r;
                many++;
                at = land.acrossFrom(r, at);
            }
        }

        private int lastRoad(Land land, Scene scene, int town, int h) {
            if (soonest[town] == NONE) {
                return NONE;
            }
            for (int r = 0; r < land.roads; r++) {
                if (land.touches(r, town) && by(land, scene, r, land.acrossFrom(r, town), h) == soonest[town]) {
                    return r;
                }
            }
            return NONE;
        }
    }

    /** What hangs together by roads that go, roads being told as bits. */
    private static final class Joins {
        static int resting(Land land, Scene scene, int day) {
            int bits = 0;
            for (int r = 0; r < land.roads; r++) {
                bits |= scene.off[r] == day ? 1 << r : 0;
            }
            return bits;
        }

        static int going(Land land, Scene scene, int day) {
            return (1 << land.roads) - 1 & ~resting(land, scene, day);
        }

        static boolean joins(Land land, int roads) {
            int all = (1 << land.towns) - 1;
            int come = 1 & all;
            for (int i = 0; i < land.towns && come != all; i++) {
                for (int r = 0; r < land.roads; r++) {
                    int ends = land.endsAsBits(r);
                    if ((roads >> r & 1) == 1 && (come & ends) != 0) {
                        come |= ends;
                    }
                }
            }
            return come == all;
        }

        static int joinedDays(Land land, Scene scene) {
            int days = 0;
            for (int d = 0; d < WEEK_DAYS; d++) {
                days |= joins(land, going(land, scene, d)) ? 1 << d : 0;
            }
            return days;
        }

        /** Only the day on which the road rested and the one on which it would rest can change. */
        static int daysIfChanged(Land land, Scene scene, int days, int r, int day) {
            int old = scene.off[r];
            if (day == old) {
                return days;
            }
            int then = days & ~(1 << old) & ~(1 << day);
            then |= joins(land, going(land, scene, old) | 1 << r) ? 1 << old : 0;
            then |= joins(land, going(land, scene, day) & ~(1 << r)) ? 1 << day : 0;
            return then;
        }

        /** Towns are few: of all ways to put one here and the other there that with fewest roads between. */
        static int fewestCut(Land land, int roads, int town, int other) {
            int fewest = MOST_ROADS;
            for (int here = 0; here < 1 << land.towns; here++) {
                if ((here >> town & 1) == 0 || (here >> other & 1) == 1) {
                    continue;
                }
                int cut = 0;
                for (int r = 0; r < land.roads; r++) {
                    boolean across = (here >> land.oneEnd[r] & 1) != (here >> land.otherEnd[r] & 1);
                    cut += (roads >> r & 1) == 1 && across ? 1 : 0;
                }
                fewest = Math.min(fewest, cut);
            }
            return fewest;
        }

        static int mostApart(Land land, int roads) {
            return mostApartFrom(land, roads, 0, 0);
        }

        /** Of the roads from r on the most that share no town with one another, nor with those used. */
        private static int mostApartFrom(Land land, int roads, int r, int used) {
            if (r >= land.roads) {
                return 0;
            }
            int without = mostApartFrom(land, roads, r + 1, used);
            int ends = land.endsAsBits(r);
            if ((roads >> r & 1) == 0 || (used & ends) != 0) {
                return without;
            }
            return Math.max(without, 1 + mostApartFrom(land, roads, r + 1, used | ends));
        }
    }

    /** Scenes ahead of works, for undoing; and images: a scene with the works that can be undone from it. */
    private static final class Past {
        private static final int IMAGE_ROWS = 1 + MOST_WORKS;

        final int[][] workRows = new int[MOST_WORKS][Scene.CELLS];
        final int[][] imageRows = new int[MOST_IMAGES * IMAGE_ROWS][Scene.CELLS];
        final int[] imageWorks = new int[MOST_IMAGES];
        int works = 0;
        int images = 0;

        void begin() {
            works = 0;
            images = 0;
        }

        void keepWork(Scene scene) {
            if (works < MOST_WORKS) {
                scene.saveIn(workRows[works]);
                works++;
            }
        }

        void takeWorkBack(Scene scene) {
            if (works > 0) {
                works--;
                scene.takeFrom(workRows[works]);
            }
        }

        void keepImage(Scene scene) {
            if (images >= MOST_IMAGES) {
                return;
            }
            int at = images * IMAGE_ROWS;
            scene.saveIn(imageRows[at]);
            for (int i = 0; i < works; i++) {
                System.arraycopy(workRows[i], 0, imageRows[at + 1 + i], 0, Scene.CELLS);
            }
            imageWorks[images] = works;
            images++;
        }

        void takeImageBack(Scene scene) {
            if (images <= 0) {
                return;
            }
            images--;
            int at = images * IMAGE_ROWS;
            scene.takeFrom(imageRows[at]);
            works = imageWorks[images];
            for (int i = 0; i < works; i++) {
                System.arraycopy(imageRows[at + 1 + i], 0, workRows[i], 0, Scene.CELLS);
            }
        }
    }
}
