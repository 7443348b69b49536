/**
 * Lumps of sugar go round by a model railway to the tables of a hall. What each call answers is
 * told by the numbered promises of DOC.md; words in capitals there are used in the same sense here.
 */
public final class SugarLoop {
    public static final int UNKNOWN = -1, OUTSIDE = -2, STATE = -3, FULL = -4, NONE = -9;
    public static final long LOST = Long.MIN_VALUE;

    private static final int NO_FAULT = 0, NULL = 1, CAST = 2, INDEX = 3, SIZE = 4;
    private static final int GUEST = 0, DUKE = 1, CHILD = 2;

    /** What is told of a TABLE, by the numbers of promise 3. */
    private static final int KIND = 0, RANK = 1, WANT = 2, WARM = 3, LEAVES = 4, HAS = 5;

    /** What is told of a RUN or a PLAN, by the numbers of promises 10 and 12. */
    private static final int LEFT = 0, HOW_MANY_SWEET = 1, WHO_IS_SWEET = 2, LAST_MINUTE = 3;
    private static final int TAKEN_BY = 10;

    private static final int MOST_TABLES = 8, LEAST_TABLES = 2, MOST_ROUNDS = 4;
    private static final int MOST_LUMPS = 36, MOST_DIGIT = 9, MOST_WARM = 39;
    private static final int MOST_READINGS = 8, SHEETS = 4, LANES = 3, MOST_CELLS = 60;
    private static final int WAGON_HOLDS = 6;

    /** A TEXT: r, LUMPS and ROUNDS ahead of all TABLES, then as many codes for each of these. */
    private static final int HEAD_CODES = 4, TABLE_CODES = 6;

    private final Sheet[] sheets = new Sheet[SHEETS];
    private final Ride ride = new Ride();
    private final Hall now = ride.hall;
    private final Readings told = new Readings();
    private int footprint = 0;
    private int latestFault = NO_FAULT;

    public SugarLoop() {
        for (int k = 0; k < SHEETS; k++) {
            sheets[k] = new Sheet();
        }
    }

    // ---- 1 the hall

    public int hall(int sheet, int lane, int i, int n) {
        latestFault = NO_FAULT;
        if (!isSheet(sheet)) {
            return UNKNOWN;
        }
        if (!isLane(lane)) {
            return OUTSIDE;
        }
        Sheet text = sheets[sheet];
        int fault = text.faultAs(lane);
        if (fault == NO_FAULT && n < 0) {
            fault = SIZE;
        }
        if (fault == NO_FAULT && !text.reaches(i, n)) {
            fault = INDEX;
        }
        if (fault != NO_FAULT) {
            return comeTo(fault);
        }
        int place = firstFault(text, i, n);
        if (place != NONE) {
            return -100 - place;
        }
        now.furnish(text, i, n);
        told.count = 0;
        return now.count;
    }

    public int ofTable(int t, int what) {
        if (!now.hasTable(t)) {
            return UNKNOWN;
        }
        if (!isWithin(what, HAS)) {
            return OUTSIDE;
        }
        return now.tables[t].trait(what);
    }

    public int bow(int t, int v) {
        return changeTable(t, RANK, v, MOST_DIGIT);
    }

    public int heat(int t, int v) {
        return changeTable(t, WARM, v, MOST_WARM);
    }

    public int load(int v) {
        if (!isWithin(v, MOST_LUMPS)) {
            return OUTSIDE;
        }
        if (!now.stands()) {
            return STATE;
        }
        int before = now.lumps;
        now.lumps = v;
        return before;
    }

    // ---- 2 rounds

    public int sweet() {
        if (!now.stands()) {
            return STATE;
        }
        ride.start(now.lumps);
        return ride.sweetSet();
    }

    public int go(int points) {
        if (!now.stands()) {
            return STATE;
        }
        if (!now.hasPoints(points)) {
            return OUTSIDE;
        }
        if (now.roundsLeft() == 0) {
            return STATE;
        }
        ride.start(now.lumps);
        ride.goRound(points);
        int taken = now.lumps - ride.lumps;
        now.settle(ride);
        return taken;
    }

    public int clear() {
        if (!now.stands()) {
            return STATE;
        }
        return now.giveBack();
    }

    public int run(int points, int what) {
        if (!now.stands()) {
            return STATE;
        }
        if (!now.hasPoints(points) || !isRideQuestion(what)) {
            return OUTSIDE;
        }
        ride.goAll(points, now.lumps);
        return ofRide(what);
    }

    public int lump(int points, int k, int what) {
        if (!now.stands()) {
            return STATE;
        }
        if (!now.hasPoints(points) || !isWithin(k, MOST_LUMPS - 1) || !isWithin(what, 1)) {
            return OUTSIDE;
        }
        int ahead = k;
        ride.start(now.lumps);
        for (int left = now.roundsLeft(); left > 0; left--) {
            for (int t = 0; t < now.count; t++) {
                int minute = ride.minute;
                int taken = ride.pass(t, points);
                if (ahead < taken) {
                    return what == 0 ? t : minute;
                }
                ahead -= taken;
            }
        }
        return NONE;
    }

    public int plan(int sheet, int lane, int i, int n, int what) {
        latestFault = NO_FAULT;
        if (!isSheet(sheet)) {
            return UNKNOWN;
        }
        if (!isLane(lane) || !isWithin(n, MOST_ROUNDS) || !isRideQuestion(what)) {
            return OUTSIDE;
        }
        if (!now.stands()) {
            return STATE;
        }
        Sheet row = sheets[sheet];
        int fault = row.faultAs(lane);
        if (fault == NO_FAULT && !row.reaches(i, n)) {
            fault = INDEX;
        }
        if (fault != NO_FAULT) {
            return comeTo(fault);
        }
        if (!areAllPoints(row, i, n)) {
            return OUTSIDE;
        }
        if (n > now.roundsLeft()) {
            return STATE;
        }
        ride.start(now.lumps);
        for (int round = 0; round < n; round++) {
            ride.goRound(row.cells[i + round]);
        }
        return ofRide(what);
    }

    // ---- 3 what would be best

    public int best(int what) {
        if (!isWithin(what, 1)) {
            return OUTSIDE;
        }
        if (!now.stands()) {
            return STATE;
        }
        int best = 0;
        int most = howManySweet(0);
        for (int points = 1; points <= now.allTables(); points++) {
            int sweet = howManySweet(points);
            if (sweet > most || sweet == most && Integer.bitCount(points) < Integer.bitCount(best)) {
                best = points;
                most = sweet;
            }
        }
        return what == 0 ? best : most;
    }

    public int enough(int t) {
        if (!now.hasTable(t)) {
            return UNKNOWN;
        }
        return fewestLumps(1 << t);
    }

    public int tea(int what) {
        if (!isWithin(what, 1)) {
            return OUTSIDE;
        }
        if (!now.stands()) {
            return STATE;
        }
        int lumps = fewestLumps(now.allTables());
        if (what == 0 || lumps == NONE) {
            return lumps;
        }
        return (lumps + WAGON_HOLDS - 1) / WAGON_HOLDS;
    }

    public int swap(int what) {
        if (!isWithin(what, 2)) {
            return OUTSIDE;
        }
        if (!now.stands()) {
            return STATE;
        }
        int most = howManySweet(0);
        int lesser = NONE;
        int greater = NONE;
        for (int a = 0; a < now.count; a++) {
            for (int b = a + 1; b < now.count; b++) {
                int sweet = howManySweetIfSwapped(a, b);
                if (sweet > most) {
                    most = sweet;
                    lesser = a;
                    greater = b;
                }
            }
        }
        if (what == 0) {
            return lesser == NONE ? NONE : most;
        }
        return what == 1 ? lesser : greater;
    }

    // ---- 4 what was taken

    public int reading(int t, int points, int v) {
        if (!now.hasTable(t)) {
            return UNKNOWN;
        }
        if (!now.hasPoints(points) || !isWithin(v, MOST_LUMPS)) {
            return OUTSIDE;
        }
        return told.add(t, points, v);
    }

    public int back(int k) {
        if (!isWithin(k, told.count)) {
            return OUTSIDE;
        }
        told.count -= k;
        return told.count;
    }

    public int ranks(int t) {
        return fitting(t, RANK, MOST_DIGIT);
    }

    public int kinds(int t) {
        return fitting(t, KIND, CHILD);
    }

    public int wants(int t) {
        return fitting(t, WANT, MOST_DIGIT);
    }

    public long odds(int t, int which) {
        if (!now.hasTable(t) || !isWithin(which, 1)) {
            return LOST;
        }
        int upper = 0;
        int lower = 0;
        for (int points = 0; points <= now.allTables(); points++) {
            ride.goAll(points, now.lumps);
            upper += ride.isSweet(t) ? 1 : 0;
            lower++;
        }
        // The lower number is a power of two, so halving leads to the least terms.
        while (lower > 1 && upper % 2 == 0) {
            upper /= 2;
            lower /= 2;
        }
        return which == 0 ? upper : lower;
    }

    // ---- 5 sheets, parts

    public int sheet(int k, int lane, int n) {
        latestFault = NO_FAULT;
        if (!isSheet(k)) {
            return UNKNOWN;
        }
        if (!isLane(lane) || n > MOST_CELLS) {
            return OUTSIDE;
        }
        if (n < 0) {
            return comeTo(SIZE);
        }
        sheets[k].renew(lane, n);
        return 1;
    }

    public int lose(int k) {
        if (!isSheet(k)) {
            return UNKNOWN;
        }
        return sheets[k].drop() ? 1 : 0;
    }

    public int put(int k, int i, int v) {
        latestFault = NO_FAULT;
        if (!isSheet(k)) {
            return UNKNOWN;
        }
        Sheet row = sheets[k];
        if (row.isNothing()) {
            return comeTo(NULL);
        }
        if (!row.reaches(i, 1)) {
            return comeTo(INDEX);
        }
        row.cells[i] = row.cut(v);
        return 1;
    }

    public long cell(int k, int i, int lane) {
        latestFault = NO_FAULT;
        if (!isSheet(k) || !isLane(lane)) {
            return LOST;
        }
        Sheet row = sheets[k];
        int fault = row.faultAs(lane);
        if (fault == NO_FAULT && !row.reaches(i, 1)) {
            fault = INDEX;
        }
        if (fault != NO_FAULT) {
            latestFault = fault;
            return LOST;
        }
        return row.cells[i];
    }

    public int copy(int k, int i, int other, int j, int n) {
        latestFault = NO_FAULT;
        if (!isSheet(k) || !isSheet(other)) {
            return UNKNOWN;
        }
        Sheet from = sheets[k];
        Sheet to = sheets[other];
        if (from.isNothing() || to.isNothing()) {
            return comeTo(NULL);
        }
        if (from.lane != to.lane) {
            return comeTo(CAST);
        }
        if (!from.reaches(i, n) || !to.reaches(j, n)) {
            return comeTo(INDEX);
        }
        System.arraycopy(from.cells, i, to.cells, j, n);
        return n;
    }

    public int tell(int t) {
        if (!now.hasTable(t)) {
            return UNKNOWN;
        }
        Table table = now.tables[t];
        if (table.kind == GUEST) {
            return tellGuest(table);
        }
        return table.kind == DUKE ? tellDuke(table) : tellChild(table);
    }

    public int pour(int t) {
        if (!now.hasTable(t)) {
            return UNKNOWN;
        }
        if (now.tables[t].kind == CHILD) {
            leave(5);
            return 70;
        }
        leave(4);
        return t;
    }

    public int as(int t, int kind) {
        latestFault = NO_FAULT;
        if (!now.hasTable(t)) {
            return UNKNOWN;
        }
        if (!isWithin(kind, CHILD)) {
            return OUTSIDE;
        }
        // Each kind is one of all kinds with lesser numbers, too.
        return kind <= now.tables[t].kind ? 1 : comeTo(CAST);
    }

    public int trace() {
        return footprint;
    }

    public int fault() {
        return latestFault;
    }

    public int many(int what) {
        switch (what) {
            case 0:
                return now.count;
            case 1:
                return now.lumps;
            case 2:
                return now.rounds;
            case 3:
                return now.gone;
            case 4:
                return told.count;
            default:
                return OUTSIDE;
        }
    }

    // ---- numbers, as they are told

    private static boolean isWithin(int v, int most) {
        return v >= 0 && v <= most;
    }

    private static boolean isSheet(int k) {
        return isWithin(k, SHEETS - 1);
    }

    private static boolean isLane(int lane) {
        return isWithin(lane, LANES - 1);
    }

    private static boolean isRideQuestion(int what) {
        return isWithin(what, LAST_MINUTE) || isWithin(what - TAKEN_BY, MOST_TABLES - 1);
    }

    private boolean areAllPoints(Sheet row, int from, int n) {
        for (int i = from; i < from + n; i++) {
            if (!now.hasPoints(row.cells[i])) {
                return false;
            }
        }
        return true;
    }

    private int comeTo(int fault) {
        latestFault = fault;
        return -10 - fault;
    }

    // ---- texts

    /** The FIRST FAULT of n codes from a cell on; NONE: they are a TEXT. */
    private static int firstFault(Sheet text, int from, int n) {
        for (int place = 0; place < n; place++) {
            int code = text.cells[from + place];
            int before = place == 0 ? 0 : text.cells[from + place - 1];
            if (!(place < HEAD_CODES ? isHeadCode(place, code, before) : isTableCode(place, code))) {
                return place;
            }
        }
        boolean ends = n >= HEAD_CODES + LEAST_TABLES * TABLE_CODES
            && (n - HEAD_CODES) % TABLE_CODES == 0;
        return ends ? NONE : n;
    }

    private static boolean isHeadCode(int place, int code, int before) {
        switch (place) {
            case 0:
                return code == 'r';
            case 1:
                return code >= '0' && code <= '3';
            case 2:
                return code >= '0' && code <= (before == '3' ? '6' : '9');
            default:
                return code >= '1' && code <= '4';
        }
    }

    private static boolean isTableCode(int place, int code) {
        switch ((place - HEAD_CODES) % TABLE_CODES) {
            case 0:
                return code == ';' && (place - HEAD_CODES) / TABLE_CODES < MOST_TABLES;
            case 1:
                return kindOf(code) != NONE;
            case 4:
                return code >= '0' && code <= '3';
            default:
                return code >= '0' && code <= '9';
        }
    }

    private static int kindOf(int letter) {
        switch (letter) {
            case 'g':
                return GUEST;
            case 'd':
                return DUKE;
            case 'c':
                return CHILD;
            default:
                return NONE;
        }
    }

    // ---- what is asked more than once

    private int changeTable(int t, int trait, int v, int most) {
        if (!now.hasTable(t)) {
            return UNKNOWN;
        }
        if (!isWithin(v, most)) {
            return OUTSIDE;
        }
        int before = now.tables[t].trait(trait);
        now.tables[t].become(trait, v);
        return before;
    }

    /** What is told of the rounds that the ride has just gone. */
    private int ofRide(int what) {
        switch (what) {
            case LEFT:
                return ride.lumps;
            case HOW_MANY_SWEET:
                return Integer.bitCount(ride.sweetSet());
            case WHO_IS_SWEET:
                return ride.sweetSet();
            case LAST_MINUTE:
                return ride.lastMinute;
            default:
                return now.hasTable(what - TAKEN_BY) ? ride.takenBy(what - TAKEN_BY) : NONE;
        }
    }

    private int howManySweet(int points) {
        ride.goAll(points, now.lumps);
        return Integer.bitCount(ride.sweetSet());
    }

    private int howManySweetIfSwapped(int a, int b) {
        now.exchange(a, b);
        int sweet = howManySweet(0);
        now.exchange(a, b);
        return sweet;
    }

    /** The fewest LUMPS by which all of a set of TABLES are SWEET; NONE. */
    private int fewestLumps(int who) {
        for (int lumps = 0; lumps <= MOST_LUMPS; lumps++) {
            ride.goAll(0, lumps);
            if ((ride.sweetSet() & who) == who) {
                return lumps;
            }
        }
        return NONE;
    }

    /** Which values a TABLE's trait may have, so that all READINGS are so, as a set. */
    private int fitting(int t, int trait, int most) {
        if (!now.hasTable(t)) {
            return UNKNOWN;
        }
        Table table = now.tables[t];
        int own = table.trait(trait);
        int set = 0;
        for (int v = 0; v <= most; v++) {
            table.become(trait, v);
            set |= areReadingsSo() ? 1 << v : 0;
        }
        table.become(trait, own);
        return set;
    }

    private boolean areReadingsSo() {
        for (int r = 0; r < told.count; r++) {
            ride.goAll(told.points[r], now.lumps);
            if (ride.takenBy(told.table[r]) != told.taken[r]) {
                return false;
            }
        }
        return true;
    }

    // ---- bodies that leave their numbers

    private void leave(int body) {
        footprint = 31 * footprint + body;
    }

    private int tellGuest(Table table) {
        leave(1);
        return table.rank;
    }

    private int tellDuke(Table table) {
        leave(2);
        return tellGuest(table) + 100;
    }

    private int tellChild(Table table) {
        leave(3);
        int asDuke = tellDuke(table);
        return asDuke + tellGuest(table);
    }

    /** A TABLE with all that is told of it. */
    private static final class Table {
        int kind;
        int rank;
        int want;
        int warm;
        int has;

        int leaves() {
            if (kind == GUEST) {
                return rank;
            }
            return kind == DUKE ? rank + 1 : (rank + 1) / 2;
        }

        int trait(int what) {
            switch (what) {
                case KIND:
                    return kind;
                case RANK:
                    return rank;
                case WANT:
                    return want;
                case WARM:
                    return warm;
                case LEAVES:
                    return leaves();
                default:
                    return has;
            }
        }

        void become(int what, int v) {
            switch (what) {
                case KIND:
                    kind = v;
                    break;
                case RANK:
                    rank = v;
                    break;
                case WANT:
                    want = v;
                    break;
                case WARM:
                    warm = v;
                    break;
                default:
                    break;
            }
        }
    }

    /** The HALL as it is now; without TABLES there is none. */
    private static final class Hall {
        final Table[] tables = new Table[MOST_TABLES];
        int count = 0;
        int lumps = 0;
        int rounds = 0;
        int gone = 0;

        Hall() {
            for (int t = 0; t < MOST_TABLES; t++) {
                tables[t] = new Table();
            }
        }

        boolean stands() {
            return count > 0;
        }

        boolean hasTable(int t) {
            return t >= 0 && t < count;
        }

        int allTables() {
            return (1 << count) - 1;
        }

        boolean hasPoints(int points) {
            return isWithin(points, allTables());
        }

        int roundsLeft() {
            return rounds - gone;
        }

        /** Makes all anew by n codes that are known to be a TEXT. */
        void furnish(Sheet text, int from, int n) {
            lumps = text.number(from + 1);
            rounds = text.digit(from + 3);
            gone = 0;
            count = (n - HEAD_CODES) / TABLE_CODES;
            for (int t = 0; t < count; t++) {
                int at = from + HEAD_CODES + t * TABLE_CODES;
                Table table = tables[t];
                table.kind = kindOf(text.cells[at + 1]);
                table.rank = text.digit(at + 2);
                table.want = text.digit(at + 3);
                table.warm = text.number(at + 4);
                table.has = 0;
            }
        }

        /** A ROUND that has been tried comes to be. */
        void settle(Ride round) {
            for (int t = 0; t < count; t++) {
                tables[t].has = round.has[t];
            }
            lumps = round.lumps;
            gone++;
        }

        int giveBack() {
            int had = 0;
            for (int t = 0; t < count; t++) {
                had += tables[t].has;
                tables[t].has = 0;
            }
            lumps += had;
            gone = 0;
            return had;
        }

        void exchange(int a, int b) {
            Table first = tables[a];
            tables[a] = tables[b];
            tables[b] = first;
        }
    }

    /** ROUNDS that are tried from how all is now in its HALL, and change nothing there. */
    private static final class Ride {
        final Hall hall = new Hall();
        final int[] has = new int[MOST_TABLES];
        int lumps = 0;
        int minute = 0;
        int lastMinute = NONE;

        void start(int lumpsOnTrain) {
            for (int t = 0; t < hall.count; t++) {
                has[t] = hall.tables[t].has;
            }
            lumps = lumpsOnTrain;
            minute = hall.gone * hall.count;
            lastMinute = NONE;
        }

        /** The train comes to a TABLE: how many lumps this takes. */
        int pass(int t, int points) {
            Table table = hall.tables[t];
            boolean takes = (points >> t & 1) == 0 && minute <= table.warm;
            int wanted = Math.max(table.want - has[t], 0);
            int offered = Math.max(lumps - table.leaves(), 0);
            int taken = takes ? Math.min(wanted, offered) : 0;
            if (taken > 0) {
                lastMinute = minute;
            }
            has[t] += taken;
            lumps -= taken;
            minute++;
            return taken;
        }

        void goRound(int points) {
            for (int t = 0; t < hall.count; t++) {
                pass(t, points);
            }
        }

        /** A RUN by points, with so many lumps on the train. */
        void goAll(int points, int lumpsOnTrain) {
            start(lumpsOnTrain);
            for (int left = hall.roundsLeft(); left > 0; left--) {
                goRound(points);
            }
        }

        int takenBy(int t) {
            return has[t] - hall.tables[t].has;
        }

        boolean isSweet(int t) {
            return has[t] == hall.tables[t].want;
        }

        int sweetSet() {
            int set = 0;
            for (int t = 0; t < hall.count; t++) {
                set |= isSweet(t) ? 1 << t : 0;
            }
            return set;
        }
    }

    /** What was told of what was taken; the rows are used up to count. */
    private static final class Readings {
        final int[] table = new int[MOST_READINGS];
        final int[] points = new int[MOST_READINGS];
        final int[] taken = new int[MOST_READINGS];
        int count = 0;

        /** Adds one: its number; FULL. */
        int add(int t, int by, int lumps) {
            if (count >= MOST_READINGS) {
                return FULL;
            }
            table[count] = t;
            points[count] = by;
            taken[count] = lumps;
            return count++;
        }
    }

    /** A SHEET: its row is made once, for a new one would cost room, and used up to length. */
    private static final class Sheet {
        private static final int NO_LANE = -1;

        final int[] cells = new int[MOST_CELLS];
        int lane = NO_LANE;
        int length = 0;

        boolean isNothing() {
            return lane == NO_LANE;
        }

        void renew(int newLane, int n) {
            lane = newLane;
            length = n;
            for (int i = 0; i < length; i++) {
                cells[i] = 0;
            }
        }

        /** Whether there was a row. */
        boolean drop() {
            boolean had = !isNothing();
            lane = NO_LANE;
            length = 0;
            return had;
        }

        /** The FAULT of taking it as a row of a LANE. */
        int faultAs(int wanted) {
            if (isNothing()) {
                return NULL;
            }
            return lane == wanted ? NO_FAULT : CAST;
        }

        /** Whether there are n cells from i on; with none of them, i may be the end. */
        boolean reaches(int i, int n) {
            return i >= 0 && n >= 0 && i <= length && n <= length - i;
        }

        int cut(int v) {
            switch (lane) {
                case 0:
                    return (byte) v;
                case 1:
                    return (short) v;
                default:
                    return v;
            }
        }

        int digit(int i) {
            return cells[i] - '0';
        }

        int number(int i) {
            return 10 * digit(i) + digit(i + 1);
        }
    }
}
