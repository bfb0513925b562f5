/**
 * The same Tuesday, again and again: a town's day told in a text, days lived by
 * rows of deeds, what can be so by when, and what the law can be by which the day
 * would end. The document (DOC.md) says what each call answers.
 *
 * States (sets of FACTS) are held as worlds: a long whose bit s stands for the
 * state s. One day lived is a world of one state, all days that could be lived are
 * a world of many, so that one telling of what happens serves both.
 */
public final class SameTuesday {
    public static final int UNKNOWN = -1, OUTSIDE = -2, STATE = -3, FULL = -4, NONE = -9;
    public static final long LOST = Long.MIN_VALUE;

    private static final int NO_FAULT = 0, NULL_FAULT = 1, CAST_FAULT = 2, INDEX_FAULT = 3, SIZE_FAULT = 4;
    private static final int LESS_A_FAULT = -10, LESS_A_PLACE = -100;
    /** No call's refusal; all of those are below 0. */
    private static final int FINE = 0;

    private static final int SHEETS = 4, LANES = 3, MOST_CELLS = 60;
    private static final int MOST_HAPPENINGS = 6, MOST_DEEDS = 5, MOST_MINUTES = 60;
    private static final int MOST_PAIRS = 20, MOST_DAYS = 8, MOST_LONG = 9;
    /** Of the longest day; a shorter one ends sooner, and what is asked of this MINUTE is told of its end. */
    private static final int LAST_MINUTE = MOST_MINUTES - 1;
    private static final int FACTS = 6, SETS = 64;
    /** The digit of a NEED that is always met, of an UNDOES that is none. */
    private static final int NO_FACT = 6;
    private static final int EACH_HAPPENING = (1 << MOST_HAPPENINGS) - 1;
    private static final long DAWN = 1L, ANY_STATE = -1L;
    /** For each FACT the world of all states in which it is so. */
    private static final long[] SO = {
        0xAAAAAAAAAAAAAAAAL, 0xCCCCCCCCCCCCCCCCL, 0xF0F0F0F0F0F0F0F0L,
        0xFF00FF00FF00FF00L, 0xFFFF0000FFFF0000L, 0xFFFFFFFF00000000L
    };

    private final Sheet[] sheets;
    private final Town town;
    private final Life life;
    private final Reach reach;
    private final Law law;
    private final Trace traces;
    private int lastFault;

    public SameTuesday() {
        sheets = new Sheet[SHEETS];
        for (int k = 0; k < SHEETS; k++) {
            sheets[k] = new Sheet();
        }
        town = new Town();
        life = new Life(town);
        reach = new Reach(town);
        law = new Law();
        traces = new Trace();
        lastFault = NO_FAULT;
    }

    // ---- 1 the day

    public int tuesday(int sheet, int lane, int i, int n) {
        lastFault = NO_FAULT;
        Sheet from = sheetOf(sheet);
        if (from == null) {
            return UNKNOWN;
        }
        int refusal = refusalOfCells(from, lane, i, n);
        if (refusal != FINE) {
            return refusal;
        }
        Text text = new Text(from, i, n);
        int wrong = text.firstFault();
        if (wrong != NONE) {
            return LESS_A_PLACE - wrong;
        }
        town.retell(text);
        law.dropLast(law.dayCount());
        reach.spoil();
        return town.happeningCount();
    }

    public int ofHappening(int h, int what) {
        Happening happening = town.happeningOf(h);
        if (happening == null) {
            return UNKNOWN;
        }
        switch (what) {
            case 0: return happening.kind();
            case 1: return happening.minute;
            case 2: return happening.need;
            case 3: return happening.fact;
            default: return OUTSIDE;
        }
    }

    public int ofDeed(int d, int what) {
        Deed deed = town.deedOf(d);
        if (deed == null) {
            return UNKNOWN;
        }
        switch (what) {
            case 0: return deed.need;
            case 1: return deed.fact;
            case 2: return deed.undoes;
            case 3: return deed.lasts;
            default: return OUTSIDE;
        }
    }

    public int minutes(int v) {
        if (v < 1 || v > MOST_MINUTES) {
            return OUTSIDE;
        }
        if (!town.isTold()) {
            return STATE;
        }
        int had = town.minuteCount();
        town.setMinutes(v);
        reach.spoil();
        return had;
    }

    public int shift(int h, int v) {
        Happening happening = town.happeningOf(h);
        if (happening == null) {
            return UNKNOWN;
        }
        if (!isMinute(v)) {
            return OUTSIDE;
        }
        int was = happening.minute;
        town.moveTo(happening, v);
        reach.spoil();
        return was;
    }

    // ---- 2 days lived

    public int live(int sheet, int lane, int i, int n, int what) {
        int refusal = takeRow(sheet, lane, i, n, what == 0 || what == 1);
        if (refusal != FINE) {
            return refusal;
        }
        int ends = life.factsAt(LAST_MINUTE, EACH_HAPPENING);
        return what == 0 ? life.firstWrong() : ends;
    }

    public int at(int m, int sheet, int lane, int i, int n) {
        int refusal = takeRow(sheet, lane, i, n, isMinute(m));
        return refusal != FINE ? refusal : life.factsAt(m, EACH_HAPPENING);
    }

    public int hangs(int sheet, int lane, int i, int n) {
        int refusal = takeRow(sheet, lane, i, n, true);
        return refusal != FINE ? refusal : life.hangsOn();
    }

    // ---- 3 what can be

    public int can(int m, int set) {
        if (!isMinute(m) || !isSet(set)) {
            return OUTSIDE;
        }
        if (!town.isTold()) {
            return STATE;
        }
        return hasState(reach.worldAt(m), set) ? 1 : 0;
    }

    public int soonest(int set) {
        if (!isSet(set)) {
            return OUTSIDE;
        }
        return town.isTold() ? reach.soonestOf(set) : STATE;
    }

    public int bar(int set) {
        if (!isSet(set)) {
            return OUTSIDE;
        }
        return town.isTold() ? reach.barOf(set) : STATE;
    }

    // ---- 4 the law

    public int day(int set) {
        if (!isSet(set)) {
            return OUTSIDE;
        }
        if (!town.isTold()) {
            return STATE;
        }
        if (law.isFull()) {
            return FULL;
        }
        law.addDay(set);
        return law.dayCount() - 1;
    }

    public int forget(int k) {
        if (k < 0 || k > law.dayCount()) {
            return OUTSIDE;
        }
        law.dropLast(k);
        return law.dayCount();
    }

    public int laws(int k) {
        if (k < -1) {
            return UNKNOWN;
        }
        if (!town.isTold()) {
            return STATE;
        }
        return k == -1 ? Long.bitCount(law.possible()) : law.possibleAt(k);
    }

    public int fewest() {
        return town.isTold() ? law.ofFewestFacts() : STATE;
    }

    public int next(int what) {
        if (what != 0 && what != 1) {
            return OUTSIDE;
        }
        if (!town.isTold()) {
            return STATE;
        }
        int state = law.partingBest(reach.worldAt(LAST_MINUTE));
        return what == 0 ? state : lesserPart(law.possible(), state);
    }

    // ---- 5 others, odds

    public int others(int set, int k, int sheet, int lane, int i, int n) {
        lastFault = NO_FAULT;
        if (k < -1) {
            return UNKNOWN;
        }
        int refusal = takeRow(sheet, lane, i, n, isSet(set));
        return refusal != FINE ? refusal : life.otherAt(set, k);
    }

    public long odds(int set, int sheet, int lane, int i, int n, int which) {
        int refusal = takeRow(sheet, lane, i, n, isSet(set) && (which == 0 || which == 1));
        if (refusal != FINE) {
            return LOST;
        }
        int all = 1 << town.happeningCount();
        int so = life.countWaysTo(set);
        int common = greatestCommon(so, all);
        if (common < 1) {
            return LOST;
        }
        return which == 0 ? so / common : all / common;
    }

    // ---- 6 sheets, parts

    public int sheet(int k, int lane, int n) {
        lastFault = NO_FAULT;
        Sheet sheet = sheetOf(k);
        if (sheet == null) {
            return UNKNOWN;
        }
        if (!isLane(lane) || n > MOST_CELLS) {
            return OUTSIDE;
        }
        if (n < 0) {
            return faulty(SIZE_FAULT);
        }
        sheet.renew(lane, n);
        return 1;
    }

    public int lose(int k) {
        Sheet sheet = sheetOf(k);
        if (sheet == null) {
            return UNKNOWN;
        }
        boolean had = !sheet.hasNothing();
        sheet.empty();
        return had ? 1 : 0;
    }

    public int put(int k, int i, int v) {
        lastFault = NO_FAULT;
        Sheet sheet = sheetOf(k);
        if (sheet == null) {
            return UNKNOWN;
        }
        if (sheet.hasNothing()) {
            return faulty(NULL_FAULT);
        }
        if (!sheet.holds(i, 1)) {
            return faulty(INDEX_FAULT);
        }
        sheet.setCell(i, v);
        return 1;
    }

    public long cell(int k, int i, int lane) {
        lastFault = NO_FAULT;
        Sheet from = sheetOf(k);
        if (from == null || refusalOfCells(from, lane, i, 1) != FINE) {
            return LOST;
        }
        return from.cellAt(i);
    }

    public int copy(int k, int i, int other, int j, int n) {
        lastFault = NO_FAULT;
        Sheet from = sheetOf(k);
        Sheet to = sheetOf(other);
        if (from == null || to == null) {
            return UNKNOWN;
        }
        if (from.hasNothing() || to.hasNothing()) {
            return faulty(NULL_FAULT);
        }
        if (!from.isLike(to)) {
            return faulty(CAST_FAULT);
        }
        if (!from.holds(i, n) || !to.holds(j, n)) {
            return faulty(INDEX_FAULT);
        }
        to.takeFrom(from, i, j, n);
        return n;
    }

    public int tell(int h) {
        Happening happening = town.happeningOf(h);
        return happening == null ? UNKNOWN : happening.telling(traces);
    }

    public int rhyme(int h) {
        Happening happening = town.happeningOf(h);
        return happening == null ? UNKNOWN : happening.rhymed(traces);
    }

    public int as(int h, int kind) {
        lastFault = NO_FAULT;
        Happening happening = town.happeningOf(h);
        if (happening == null) {
            return UNKNOWN;
        }
        if (kind < 0 || kind > 2) {
            return OUTSIDE;
        }
        // Each kind is also of all kinds below it.
        return kind <= happening.kind() ? 1 : faulty(CAST_FAULT);
    }

    public int trace() {
        return traces.value();
    }

    public int fault() {
        return lastFault;
    }

    public int many(int what) {
        switch (what) {
            case 0: return town.happeningCount();
            case 1: return town.deedCount();
            case 2: return town.minuteCount();
            case 3: return law.dayCount();
            default: return OUTSIDE;
        }
    }

    // ---- what the calls share

    private int faulty(int fault) {
        lastFault = fault;
        return LESS_A_FAULT - fault;
    }

    private Sheet sheetOf(int k) {
        return k >= 0 && k < sheets.length ? sheets[k] : null;
    }

    /** What stands against taking n cells from i on as a row of a LANE. */
    private int refusalOfCells(Sheet from, int lane, int i, int n) {
        if (!isLane(lane)) {
            return OUTSIDE;
        }
        if (from.hasNothing()) {
            return faulty(NULL_FAULT);
        }
        if (!from.isOf(lane)) {
            return faulty(CAST_FAULT);
        }
        if (n < 0) {
            return faulty(SIZE_FAULT);
        }
        return from.holds(i, n) ? FINE : faulty(INDEX_FAULT);
    }

    /** Makes the ROW that cells tell the one to be lived; whether the call's own numbers fit is told by fits. */
    private int takeRow(int sheet, int lane, int i, int n, boolean fits) {
        lastFault = NO_FAULT;
        Sheet from = sheetOf(sheet);
        if (from == null) {
            return UNKNOWN;
        }
        if (n < 0 || n > MOST_PAIRS || !fits) {
            return OUTSIDE;
        }
        int refusal = refusalOfCells(from, lane, i, 2 * n);
        if (refusal != FINE) {
            return refusal;
        }
        return town.isTold() ? life.readPairs(from, i, n) : STATE;
    }

    private static boolean isLane(int lane) {
        return lane >= 0 && lane < LANES;
    }

    private static boolean isSet(int set) {
        return set >= 0 && set < SETS;
    }

    private static boolean isMinute(int m) {
        return m >= 0 && m < MOST_MINUTES;
    }

    /** Of numbers from 0 to 64. */
    private static int greatestCommon(int a, int b) {
        int greater = a;
        int lesser = b;
        for (int step = 0; step < SETS && lesser > 0; step++) {
            int rest = greater % lesser;
            greater = lesser;
            lesser = rest;
        }
        return greater;
    }

    // ---- worlds

    private static boolean hasState(long world, int state) {
        return (world >>> state & 1L) == 1L;
    }

    /** All states in which a FACT is so; all there are for NO_FACT. */
    private static long worldWith(int fact) {
        return fact >= 0 && fact < SO.length ? SO[fact] : ANY_STATE;
    }

    /** All states in which all FACTS of a set are so. */
    private static long worldWithAll(int set) {
        long world = ANY_STATE;
        for (int fact = 0; fact < FACTS; fact++) {
            if ((set >> fact & 1) == 1) {
                world &= worldWith(fact);
            }
        }
        return world;
    }

    /** All states that are within a set. */
    private static long worldWithin(int set) {
        long world = ANY_STATE;
        for (int fact = 0; fact < FACTS; fact++) {
            if ((set >> fact & 1) == 0) {
                world &= ~worldWith(fact);
            }
        }
        return world;
    }

    /** Of LAWS within a state and the other ones the lesser number. */
    private static int lesserPart(long laws, int state) {
        int within = Long.bitCount(laws & worldWithin(state));
        return Math.min(within, Long.bitCount(laws) - within);
    }

    /** A row of up to 60 numbers of one LANE, or nothing. */
    private static final class Sheet {
        private static final int NOTHING = -1;

        private final int[] cells;
        private int lane;
        private int size;

        Sheet() {
            cells = new int[MOST_CELLS];
            lane = NOTHING;
            size = 0;
        }

        boolean hasNothing() {
            return lane == NOTHING;
        }

        boolean isOf(int ofLane) {
            return lane == ofLane;
        }

        boolean isLike(Sheet sheet) {
            return lane == sheet.lane;
        }

        void renew(int ofLane, int ofSize) {
            lane = ofLane;
            size = Math.max(0, Math.min(ofSize, cells.length));
            for (int i = 0; i < cells.length; i++) {
                cells[i] = 0;
            }
        }

        void empty() {
            lane = NOTHING;
            size = 0;
        }

        boolean holds(int i, int n) {
            return i >= 0 && n >= 0 && i <= size && n <= size - i;
        }

        int cellAt(int i) {
            return i >= 0 && i < size ? cells[i] : 0;
        }

        void setCell(int i, int v) {
            if (i >= 0 && i < size) {
                cells[i] = lane == 0 ? (byte) v : lane == 1 ? (short) v : v;
            }
        }

        void takeFrom(Sheet from, int i, int j, int n) {
            if (from.holds(i, n) && holds(j, n)) {
                System.arraycopy(from.cells, i, cells, j, n);
            }
        }
    }

    /** The numbers that bodies left, as one. */
    private static final class Trace {
        private int left;

        Trace() {
            left = 0;
        }

        void leave(int number) {
            left = 31 * left + number;
        }

        int value() {
            return left;
        }
    }

    /** A TEXT in cells of a SHEET. */
    private static final class Text {
        private static final int NO_CODE = -1;
        private static final int HAPPENING_CODES = 6, DEED_CODES = 5;

        private final Sheet sheet;
        private final int start;
        private final int length;
        private int place;
        private int happenings;
        private int deeds;

        Text(Sheet sheet, int start, int length) {
            this.sheet = sheet;
            this.start = start;
            this.length = length;
            place = 0;
            happenings = 0;
            deeds = 0;
        }

        /** A TEXT that ends too soon has, as it were, a wrong code at its end. NONE: it is whole. */
        int firstFault() {
            if (codeAt(0) != 's') {
                return 0;
            }
            place = 1;
            boolean right = true;
            for (int part = 0; right && part <= MOST_HAPPENINGS + MOST_DEEDS; part++) {
                if (place == length && happenings > 0) {
                    return NONE;
                }
                right = passPart();
            }
            return place;
        }

        /** Goes behind the HAPPENING or DEED that begins here, or to its first wrong code: whether it is right. */
        private boolean passPart() {
            int sign = codeAt(place);
            boolean happens = sign == ';' && deeds == 0 && happenings < MOST_HAPPENINGS;
            boolean isDone = sign == ',' && happenings > 0 && deeds < MOST_DEEDS;
            if (!happens && !isDone) {
                return false;
            }
            int codes = happens ? HAPPENING_CODES : DEED_CODES;
            for (int k = 1; k < codes; k++) {
                place++;
                int code = codeAt(place);
                if (happens ? !fitsHappening(k, code) : !fitsDeed(k, code)) {
                    return false;
                }
            }
            place++;
            happenings += happens ? 1 : 0;
            deeds += isDone ? 1 : 0;
            return true;
        }

        private static boolean fitsHappening(int k, int code) {
            switch (k) {
                case 1: return kindOf(code) != NONE;
                case 2: return isDigit(code, 0, 5);
                case 3: return isDigit(code, 0, 9);
                case 4: return isDigit(code, 0, NO_FACT);
                default: return isDigit(code, 0, FACTS - 1);
            }
        }

        private static boolean fitsDeed(int k, int code) {
            switch (k) {
                case 1: return isDigit(code, 0, NO_FACT);
                case 2: return isDigit(code, 0, FACTS - 1);
                case 3: return isDigit(code, 0, NO_FACT);
                default: return isDigit(code, 1, MOST_LONG);
            }
        }

        private static boolean isDigit(int code, int least, int most) {
            return code >= '0' + least && code <= '0' + most;
        }

        private static int kindOf(int code) {
            switch (code) {
                case 'h': return 0;
                case 'm': return 1;
                case 'c': return 2;
                default: return NONE;
            }
        }

        private int codeAt(int p) {
            return p >= 0 && p < length ? sheet.cellAt(start + p) : NO_CODE;
        }

        private int digitAt(int p) {
            return codeAt(p) - '0';
        }

        int happeningCount() {
            return happenings;
        }

        int deedCount() {
            return deeds;
        }

        Happening newHappening(int h) {
            int p = 1 + HAPPENING_CODES * h;
            int minute = 10 * digitAt(p + 2) + digitAt(p + 3);
            int need = digitAt(p + 4);
            int fact = digitAt(p + 5);
            switch (kindOf(codeAt(p + 1))) {
                case 1: return new Mishap(h, minute, need, fact);
                case 2: return new Caprice(h, minute, need, fact);
                default: return new Happening(h, minute, need, fact);
            }
        }

        Deed newDeed(int d) {
            int p = 1 + HAPPENING_CODES * happenings + DEED_CODES * d;
            return new Deed(digitAt(p + 1), digitAt(p + 2), digitAt(p + 3), digitAt(p + 4));
        }
    }

    private static class Happening {
        final int number;
        final int need;
        final int fact;
        /** The states that meet the NEED, those in which the FACT is so. */
        final long met, so;
        int minute;

        Happening(int number, int minute, int need, int fact) {
            this.number = number;
            this.minute = minute;
            this.need = need;
            this.fact = fact;
            met = worldWith(need);
            so = worldWith(fact);
        }

        int kind() {
            return 0;
        }

        /** What becomes of a world as this comes about in each of its states that meets the NEED. */
        long after(long world) {
            long rise = world & met & ~so;
            return world & ~rise | rise << (1 << fact);
        }

        int telling(Trace trace) {
            return plainTelling(trace);
        }

        /** What any HAPPENING gives, also one of a kind that tells otherwise. */
        final int plainTelling(Trace trace) {
            trace.leave(1);
            return minute;
        }

        int rhymed(Trace trace) {
            trace.leave(4);
            return number;
        }
    }

    private static class Mishap extends Happening {
        Mishap(int number, int minute, int need, int fact) {
            super(number, minute, need, fact);
        }

        int kind() {
            return 1;
        }

        long after(long world) {
            long fall = world & met & so;
            return world & ~fall | fall >>> (1 << fact);
        }

        int telling(Trace trace) {
            trace.leave(2);
            return plainTelling(trace) + 100;
        }
    }

    private static final class Caprice extends Mishap {
        Caprice(int number, int minute, int need, int fact) {
            super(number, minute, need, fact);
        }

        int kind() {
            return 2;
        }

        long after(long world) {
            long rise = world & met & ~so;
            long fall = world & met & so;
            return world & ~met | rise << (1 << fact) | fall >>> (1 << fact);
        }

        int telling(Trace trace) {
            trace.leave(3);
            int asMishap = super.telling(trace);
            return asMishap + plainTelling(trace);
        }

        int rhymed(Trace trace) {
            trace.leave(5);
            return 40;
        }
    }

    private static final class Deed {
        final int need;
        final int fact;
        final int undoes;
        final int lasts;
        /** The states that meet the NEED. */
        final long met;

        Deed(int need, int fact, int undoes, int lasts) {
            this.need = need;
            this.fact = fact;
            this.undoes = undoes;
            this.lasts = lasts;
            met = worldWith(need);
        }

        /** What becomes of a world as this ends. */
        long after(long world) {
            long rise = world & ~worldWith(fact);
            long done = world & ~rise | rise << (1 << fact);
            if (undoes == NO_FACT) {
                return done;
            }
            long fall = done & worldWith(undoes);
            return done & ~fall | fall >>> (1 << undoes);
        }
    }

    /** The TUESDAY: what happens and what can be done, in how many MINUTES. */
    private static final class Town {
        private final Happening[] happenings;
        private final Deed[] deeds;
        private int happeningCount;
        private int deedCount;
        private int minuteCount;
        /** Bit m: some HAPPENING is of MINUTE m. Most MINUTES have none and are passed over by it. */
        private long eventful;

        Town() {
            happenings = new Happening[MOST_HAPPENINGS];
            deeds = new Deed[MOST_DEEDS];
            happeningCount = 0;
            deedCount = 0;
            minuteCount = 0;
            eventful = 0L;
        }

        void retell(Text text) {
            happeningCount = Math.min(text.happeningCount(), happenings.length);
            for (int h = 0; h < happeningCount; h++) {
                happenings[h] = text.newHappening(h);
            }
            deedCount = Math.min(text.deedCount(), deeds.length);
            for (int d = 0; d < deedCount; d++) {
                deeds[d] = text.newDeed(d);
            }
            minuteCount = MOST_MINUTES;
            noteEvents();
        }

        private void noteEvents() {
            eventful = 0L;
            for (int h = 0; h < happeningCount; h++) {
                Happening happening = happeningOf(h);
                if (happening != null) {
                    eventful |= 1L << happening.minute;
                }
            }
        }

        boolean isTold() {
            return happeningCount > 0;
        }

        int happeningCount() {
            return happeningCount;
        }

        int deedCount() {
            return deedCount;
        }

        int minuteCount() {
            return minuteCount;
        }

        /** A MINUTE, or the last one, if the day has not so many. */
        int minuteInDay(int m) {
            return Math.min(m, minuteCount - 1);
        }

        void setMinutes(int v) {
            minuteCount = v;
        }

        void moveTo(Happening happening, int minute) {
            happening.minute = minute;
            noteEvents();
        }

        Happening happeningOf(int h) {
            return h >= 0 && h < happeningCount && h < happenings.length ? happenings[h] : null;
        }

        Deed deedOf(int d) {
            return d >= 0 && d < deedCount && d < deeds.length ? deeds[d] : null;
        }

        /** What becomes of a world by those HAPPENINGS of a MINUTE that are there (bits). */
        long happenIn(int minute, long world, int there) {
            if ((eventful >>> minute & 1L) == 0L) {
                return world;
            }
            long after = world;
            for (int h = 0; h < happeningCount; h++) {
                Happening happening = happeningOf(h);
                if (happening != null && happening.minute == minute && (there >> h & 1) == 1) {
                    after = happening.after(after);
                }
            }
            return after;
        }

        /** The states of a world in which a DEED can be begun in a MINUTE, if none goes on. */
        long openTo(Deed deed, int minute, long world) {
            return minute + deed.lasts < minuteCount ? world & deed.met : 0L;
        }
    }

    /** One day, lived by a ROW of DEEDS, perhaps with one DEED of another one beside it. */
    private static final class Life {
        private final Town town;
        private final int[] pairMinutes;
        private final int[] pairDeeds;
        private int pairs;
        /** As each MINUTE ended in the day lived last without another one; each has one state. */
        private final long[] aloneAt;
        private long world;
        private Deed going;
        private int goingEnds;
        private int nextPair;
        private int firstWrong;
        private Deed other;
        private int otherEnds;

        Life(Town town) {
            this.town = town;
            pairMinutes = new int[MOST_PAIRS];
            pairDeeds = new int[MOST_PAIRS];
            pairs = 0;
            aloneAt = new long[MOST_MINUTES];
            world = DAWN;
            going = null;
            goingEnds = 0;
            nextPair = 0;
            firstWrong = NONE;
            other = null;
            otherEnds = 0;
        }

        int readPairs(Sheet from, int i, int n) {
            pairs = 0;
            for (int p = 0; p < n && p < MOST_PAIRS; p++) {
                int minute = from.cellAt(i + 2 * p);
                int deed = from.cellAt(i + 2 * p + 1);
                if (!isMinute(minute)) {
                    return OUTSIDE;
                }
                if (town.deedOf(deed) == null) {
                    return UNKNOWN;
                }
                pairMinutes[p] = minute;
                pairDeeds[p] = deed;
                pairs = p + 1;
            }
            return FINE;
        }

        /** FIRST WRONG of the day lived last, if it was lived to its end. */
        int firstWrong() {
            return firstWrong;
        }

        /** Lives until a MINUTE ends (or the day does) with those HAPPENINGS that are there (bits): the FACTS so then. */
        int factsAt(int minute, int there) {
            world = DAWN;
            going = null;
            nextPair = 0;
            firstWrong = NONE;
            int last = Math.min(town.minuteInDay(minute), LAST_MINUTE);
            for (int m = 0; m <= last; m++) {
                world = town.happenIn(m, world, there);
                endDeeds(m);
                beginPairs(m);
                if (other == null) {
                    aloneAt[m] = world;
                }
            }
            if (nextPair < pairs) {
                noteWrong(nextPair);
            }
            return Long.numberOfTrailingZeros(world);
        }

        private void endDeeds(int minute) {
            if (going != null && goingEnds == minute) {
                world = going.after(world);
                going = null;
            }
            if (other != null && otherEnds == minute) {
                world = other.after(world);
            }
        }

        /** A pair that comes up behind one of this MINUTE is not above it, whether or not that one could be. */
        private void beginPairs(int minute) {
            boolean isLate = false;
            while (nextPair < pairs && minuteOfPair(nextPair) <= minute) {
                if (isLate || !begin(deedOfPair(nextPair), minute)) {
                    noteWrong(nextPair);
                }
                isLate = true;
                nextPair++;
            }
        }

        private boolean begin(Deed deed, int minute) {
            if (deed == null || going != null || town.openTo(deed, minute, world) == 0L) {
                return false;
            }
            going = deed;
            goingEnds = minute + deed.lasts;
            return true;
        }

        private void noteWrong(int pair) {
            if (firstWrong == NONE) {
                firstWrong = pair;
            }
        }

        private int minuteOfPair(int p) {
            return p >= 0 && p < pairMinutes.length ? pairMinutes[p] : 0;
        }

        private Deed deedOfPair(int p) {
            return p >= 0 && p < pairDeeds.length ? town.deedOf(pairDeeds[p]) : null;
        }

        /** HANGS of the ROW. */
        int hangsOn() {
            int ends = factsAt(LAST_MINUTE, EACH_HAPPENING);
            int set = 0;
            for (int h = 0; h < town.happeningCount(); h++) {
                if (factsAt(LAST_MINUTE, EACH_HAPPENING & ~(1 << h)) != ends) {
                    set |= 1 << h;
                }
            }
            return set;
        }

        /** By how many sets of HAPPENINGS that are there the ROW ENDS with all of a set so. */
        int countWaysTo(int set) {
            int ways = 0;
            for (int there = 0; there < 1 << town.happeningCount(); there++) {
                if ((factsAt(LAST_MINUTE, there) & set) == set) {
                    ways++;
                }
            }
            return ways;
        }

        /** The k-th of OTHERS: 10 times the MINUTE, and the DEED; how many there are (k -1). */
        int otherAt(int set, int k) {
            factsAt(LAST_MINUTE, EACH_HAPPENING);
            int count = 0;
            for (int m = 0; m < town.minuteCount() && m < MOST_MINUTES; m++) {
                for (int d = 0; d < town.deedCount(); d++) {
                    Deed deed = town.deedOf(d);
                    // Until the other's DEED ends, the day is as it is without it.
                    if (deed != null && town.openTo(deed, m, aloneAt[m]) != 0L && endsWith(deed, m, set)) {
                        if (count == k) {
                            return 10 * m + d;
                        }
                        count++;
                    }
                }
            }
            return k == -1 ? count : NONE;
        }

        private boolean endsWith(Deed deed, int begun, int set) {
            other = deed;
            otherEnds = begun + deed.lasts;
            int ends = factsAt(LAST_MINUTE, EACH_HAPPENING);
            other = null;
            return ends == set;
        }
    }

    /** What CAN BE as each MINUTE of the day ends. */
    private static final class Reach {
        private static final int LEFT = MOST_LONG + 1;

        private final Town town;
        /** As each MINUTE ends. */
        private final long[] worlds;
        /** By DEEDS that go on, and how many MINUTES they still do: LEFT times the DEED, and these. */
        private final long[] going;
        /** While none goes on. */
        private long free;
        private boolean spoilt;

        Reach(Town town) {
            this.town = town;
            worlds = new long[MOST_MINUTES];
            going = new long[MOST_DEEDS * LEFT];
            free = DAWN;
            spoilt = true;
        }

        /** What was reckoned is of another TUESDAY than there is now. */
        void spoil() {
            spoilt = true;
        }

        /** As a MINUTE ends, or the last one, if the day has not so many. */
        long worldAt(int minute) {
            if (spoilt) {
                reckon();
                spoilt = false;
            }
            int m = town.minuteInDay(minute);
            return m >= 0 && m < worlds.length ? worlds[m] : 0L;
        }

        int soonestOf(int set) {
            long wanted = worldWithAll(set);
            for (int m = 0; m < town.minuteCount(); m++) {
                if ((worldAt(m) & wanted) != 0L) {
                    return m;
                }
            }
            return NONE;
        }

        int barOf(int set) {
            long ends = worldAt(LAST_MINUTE);
            for (int a = 0; a < FACTS; a++) {
                for (int b = a + 1; b < FACTS; b++) {
                    int both = 1 << a | 1 << b;
                    if ((set & both) == both && (ends & worldWithAll(both)) == 0L) {
                        return 10 * a + b;
                    }
                }
            }
            return NONE;
        }

        private void reckon() {
            free = DAWN;
            for (int g = 0; g < going.length; g++) {
                going[g] = 0L;
            }
            for (int m = 0; m < town.minuteCount() && m < worlds.length; m++) {
                passHappenings(m);
                endDeeds();
                beginDeeds(m);
                worlds[m] = everyWorld();
            }
        }

        private void passHappenings(int minute) {
            free = town.happenIn(minute, free, EACH_HAPPENING);
            for (int g = 0; g < going.length; g++) {
                going[g] = town.happenIn(minute, going[g], EACH_HAPPENING);
            }
        }

        /** Those with one MINUTE left end; the others have one less left. */
        private void endDeeds() {
            for (int d = 0; d < MOST_DEEDS; d++) {
                Deed deed = town.deedOf(d);
                int first = LEFT * d + 1;
                if (deed != null) {
                    free |= deed.after(going[first]);
                }
                System.arraycopy(going, first + 1, going, first, MOST_LONG - 1);
                going[LEFT * d + MOST_LONG] = 0L;
            }
        }

        private void beginDeeds(int minute) {
            for (int d = 0; d < MOST_DEEDS; d++) {
                Deed deed = town.deedOf(d);
                if (deed != null && deed.lasts > 0 && deed.lasts < LEFT) {
                    going[LEFT * d + deed.lasts] |= town.openTo(deed, minute, free);
                }
            }
        }

        private long everyWorld() {
            long world = free;
            for (int g = 0; g < going.length; g++) {
                world |= going[g];
            }
            return world;
        }
    }

    /** DAYS lived, and what the LAW can be by them. Sets that can be the LAW are held as a world, too. */
    private static final class Law {
        private final int[] days;
        private int count;

        Law() {
            days = new int[MOST_DAYS];
            count = 0;
        }

        int dayCount() {
            return count;
        }

        boolean isFull() {
            return count >= days.length;
        }

        void addDay(int set) {
            if (count >= 0 && count < days.length) {
                days[count] = set;
                count++;
            }
        }

        void dropLast(int k) {
            count = Math.max(0, count - k);
        }

        /** LAWS. */
        long possible() {
            long left = ANY_STATE;
            for (int d = 0; d < count && d < days.length; d++) {
                left &= ~worldWithin(days[d]);
            }
            return left;
        }

        int possibleAt(int k) {
            long possible = possible();
            int ahead = 0;
            for (int set = 0; set < SETS; set++) {
                if (hasState(possible, set)) {
                    if (ahead == k) {
                        return set;
                    }
                    ahead++;
                }
            }
            return NONE;
        }

        int ofFewestFacts() {
            long possible = possible();
            int best = NONE;
            for (int set = 0; set < SETS; set++) {
                boolean isFewer = best == NONE || Integer.bitCount(set) < Integer.bitCount(best);
                if (hasState(possible, set) && isFewer) {
                    best = set;
                }
            }
            return best;
        }

        /** NEXT, of the states of a world. */
        int partingBest(long world) {
            long possible = possible();
            int best = NONE;
            int most = -1;
            for (int state = 0; state < SETS; state++) {
                if (hasState(world, state) && lesserPart(possible, state) > most) {
                    best = state;
                    most = lesserPart(possible, state);
                }
            }
            return best;
        }
    }
}
