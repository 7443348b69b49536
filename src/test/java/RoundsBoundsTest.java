/** Boundary cases of the sentences on rounds, and of promises 7 to 12. */
public final class RoundsBoundsTest {
    private static final Sentences T = new Sentences("RoundsBoundsTest");
    /** All of them want one lump and leave none. */
    private static final String ONES = "r364;g0139;g0139;g0139;g0139;g0139;g0139;g0139;g0139";
    /** All of them want nine lumps and leave none. */
    private static final String NINES = "r364;g0939;g0939;g0939;g0939;g0939;g0939;g0939;g0939";

    public static void main(String[] args) {
        oneByOne();
        minutes();
        passedBy();
        noLaterThanWarm();
        stillWants();
        aboveWhatItLeaves();
        sweetAre();
        allRoundsLeft();
        fromHowAllIs();
        furtherRounds();
        numbered();
        sweet();
        sweetRefusals();
        go();
        goRefusals();
        goRounds();
        clear();
        clearMoreThan36();
        clearKeepsReadings();
        clearRefusals();
        run();
        runLastMinute();
        runByTable();
        runRefusals();
        lump();
        lumpRefusals();
        plan();
        planLastMinute();
        planByTable();
        planCells();
        planRoundsLeft();
        planRefusals();
        planFaults();
        T.end();
    }

    private static void oneByOne() {
        T.of("A ROUND goes by all TABLES, 0, 1 and so on, one each MINUTE");
        SugarLoop x = Calls.with(ONES);
        for (int k = 0; k < 8; k++) {
            T.runs(x, "lump 0 " + k + " 0 = " + k, "lump 0 " + k + " 1 = " + k);
        }
        T.runs(x, "load 1 = 36", "run 0 2 = 1", "run 127 2 = 128", "load 7 = 1", "run 0 2 = 127");
    }

    private static void minutes() {
        T.of("MINUTES are counted from 0 on, through all ROUNDS");
        T.inHall("r364;g0100;g0100", "run 0 10 = 1", "run 0 11 = 0", "run 0 3 = 0", "go 1 = 0", "run 0 10 = 0");
        T.inHall("r364;g0107;g0107", "go 3 = 0", "go 3 = 0", "go 3 = 0", "run 1 3 = 7", "run 0 3 = 7", "heat 1 6 = 7",
            "run 0 3 = 6", "heat 0 5 = 7", "run 0 3 = NONE", "heat 0 6 = 5", "go 0 = 1");
        T.inHall("r364;g0139;g0139;g0139", "go 7 = 0", "lump 0 0 1 = 3", "go 7 = 0", "lump 0 0 1 = 6", "go 7 = 0",
            "lump 0 2 1 = 11");
        SugarLoop x = Calls.with(ONES);
        T.runs(x, "go 255 = 0", "go 255 = 0", "go 255 = 0", "run 0 3 = 31", "run 127 3 = 31", "lump 0 7 1 = 31",
            "heat 7 31 = 39", "run 127 3 = 31", "heat 7 30 = 31", "run 127 3 = NONE", "run 0 3 = 30");
    }

    private static void passedBy() {
        T.of("By POINTS, a set of TABLES, these are PASSED BY: they take nothing");
        for (int points = 0; points < 256; points++) {
            SugarLoop x = Calls.with(ONES);
            int taken = 8 - Integer.bitCount(points);
            T.runs(x, "run " + points + " 0 = " + (36 - taken), "run " + points + " 2 = " + (255 - points),
                "go " + points + " = " + taken, "sweet = " + (255 - points));
        }
    }

    /** Each table in each round by each last minute of its tea. */
    private static void noLaterThanWarm() {
        T.of("if its MINUTE is no later than WARM");
        for (int t = 0; t < 8; t++) {
            for (int round = 0; round < 4; round++) {
                SugarLoop x = Calls.with(ONES);
                x.sheet(0, 2, 4);
                for (int ahead = 0; ahead < round; ahead++) {
                    x.put(0, ahead, 255);
                }
                x.put(0, round, 255 - (1 << t));
                for (int warm = 0; warm < 40; warm++) {
                    x.heat(t, warm);
                    T.runs(x, "plan 0 2 0 " + (round + 1) + " 1" + t + " = " + (8 * round + t <= warm ? 1 : 0));
                }
            }
        }
    }

    private static void stillWants() {
        T.of("as many as it still WANTS (WANT less what it HAS; 0 at least)");
        T.inHall("r053;g0939;g0039", "go 0 = 5", "load 36 = 0", "run 0 10 = 4", "go 0 = 4", "go 0 = 0", "many 1 = 32",
            "ofTable 0 5 = 9");
        T.inHall("r052;g0539;g0039", "run 0 10 = 5", "load 6 = 5", "run 0 10 = 5", "load 4 = 6", "run 0 10 = 4");
        // in place of its WANT of three, less than it has: it takes none and gives none back
        T.inHall("r362;g0339;g0939", "go 2 = 3", "reading 0 0 0 = 0", "wants 0 = 15", "reading 1 0 9 = 1",
            "wants 0 = 15", "load 12 = 33", "wants 0 = 15", "back 2 = 0", "reading 0 0 1 = 0", "wants 0 = 16");
    }

    private static void aboveWhatItLeaves() {
        T.of("but no more than there are above what it LEAVES (0 at least)");
        SugarLoop x = Calls.with("r361;d9939;g0039");
        for (int lumps = 0; lumps <= 36; lumps++) {
            int taken = Math.min(9, Math.max(0, lumps - 10));
            x.load(lumps);
            T.runs(x, "run 0 10 = " + taken, "run 0 0 = " + (lumps - taken));
        }
        T.inHall("r041;g4939;g5939", "run 0 0 = 4", "load 5 = 4", "run 0 10 = 1", "run 0 11 = 0", "run 1 11 = 0",
            "load 6 = 5", "run 1 11 = 1", "run 0 10 = 2", "run 0 11 = 0", "go 0 = 2", "many 1 = 4");
        T.inHall("r002;g9939;g0939", "go 0 = 0", "many 1 = 0", "ofTable 0 5 = 0", "load 1 = 0", "go 0 = 1",
            "ofTable 1 5 = 1");
    }

    private static void sweetAre() {
        T.of("SWEET are those who HAVE as many as they WANT");
        T.inHall("r004;g0039;g0139", "sweet = 1", "go 0 = 0", "sweet = 1", "load 1 = 0", "go 0 = 1", "sweet = 3");
        T.inHall("r084;g0939;g9039", "sweet = 2", "run 0 2 = 2", "go 0 = 8", "sweet = 2", "load 1 = 0", "run 0 2 = 3",
            "go 0 = 1", "sweet = 3", "go 0 = 0", "sweet = 3", "clear = 9", "sweet = 2");
    }

    private static void allRoundsLeft() {
        T.of("RUN by POINTS: all ROUNDS that are left go by the same POINTS");
        SugarLoop x = States.over();
        T.runs(x, "load 36 = 3", "bow 0 0 = 2", "run 0 0 = 36", "run 0 1 = 3", "run 0 2 = 7", "run 0 3 = NONE",
            "run 0 10 = 0", "run 7 0 = 36", "lump 0 0 0 = NONE", "clear = 9", "run 0 0 = 36", "run 7 0 = 45");
        T.inHall("r361;g0939;g0939", "go 3 = 0", "run 0 0 = 36", "run 0 3 = NONE", "run 0 11 = 0", "lump 0 0 0 = NONE",
            "lump 0 0 1 = NONE", "best 1 = 0", "tea 0 = NONE", "enough 0 = NONE", "odds 0 0 = 0");
        T.inHall("r361;g0939;g0939", "run 2 10 = 9", "run 2 11 = 0", "go 2 = 9", "run 0 11 = 0", "run 0 0 = 27");
        T.inHall("r362;g0939;g0939", "run 2 10 = 9", "run 2 11 = 0", "go 2 = 9", "run 0 11 = 9", "run 0 0 = 18",
            "run 3 0 = 27", "go 1 = 9", "run 0 0 = 18");
        // three passed rounds leave one, in which the train comes in minute 7
        T.inHall("r364;g0939;g0907", "go 3 = 0", "go 3 = 0", "go 3 = 0", "run 1 11 = 9", "run 1 3 = 7", "go 3 = 0",
            "run 1 11 = 0");
    }

    private static void fromHowAllIs() {
        T.of("from how all is now (nothing is changed)");
        T.refuses(States::begun, "run 0 0 = 3", "run 7 0 = 12", "run 0 2 = 7", "lump 0 8 0 = 2", "lump 0 9 0 = NONE",
            "plan 0 0 0 3 0 = 3", "plan 0 0 0 0 0 = 12", "best 0 = 0", "tea 0 = 12", "swap 0 = NONE", "odds 0 0 = 1");
        T.refuses(States::halfway, "run 0 0 = 3", "run 7 0 = 7", "run 2 2 = 5", "lump 0 3 0 = 1", "lump 0 4 0 = NONE",
            "plan 0 0 0 2 0 = 3", "plan 0 0 0 0 0 = 7", "best 1 = 3", "enough 1 = 6", "odds 1 1 = 2");
        T.refuses(States::over, "run 0 0 = 3", "run 7 0 = 3", "plan 0 0 0 0 2 = 7", "best 0 = 0", "enough 0 = 0",
            "tea 1 = 0");
    }

    private static void furtherRounds() {
        T.of("A PLAN told: a row of POINTS, for one ROUND each, from how all is now (nothing is changed); "
            + "further ROUNDS do not go");
        SugarLoop x = Calls.with("r364;g0939;g0939");
        Calls.write(x, 0, 0, 3, 3, 3, 1);
        T.runs(x, "plan 0 0 0 0 0 = 36", "plan 0 0 0 1 0 = 36", "plan 0 0 0 3 0 = 36", "plan 0 0 0 3 1 = 0",
            "plan 0 0 0 3 3 = NONE", "plan 0 0 0 4 0 = 27", "plan 0 0 0 4 2 = 2", "plan 0 0 0 4 3 = 7",
            "plan 0 0 3 1 3 = 1", "go 0 = 18", "plan 0 0 0 0 1 = 2", "plan 0 0 0 0 11 = 0");
    }

    private static void numbered() {
        T.of("LUMPS that are taken in a RUN are numbered as they are, from 0 on in each RUN");
        T.inHall("r302;g0339;g0039;g0239", "lump 0 0 0 = 0", "lump 0 2 0 = 0", "lump 0 3 0 = 2", "lump 0 4 0 = 2",
            "lump 0 4 1 = 2", "lump 0 5 0 = NONE", "lump 1 0 0 = 2", "lump 1 1 0 = 2", "lump 1 2 0 = NONE",
            "lump 7 0 0 = NONE", "go 4 = 3", "lump 0 0 0 = 2", "lump 0 0 1 = 5", "lump 0 2 0 = NONE", "go 0 = 2",
            "lump 0 0 0 = NONE", "lump 0 0 1 = NONE");
    }

    private static void sweet() {
        T.of("SWEET, as a set. STATE: there is no HALL.");
        T.inHall(ONES, "sweet = 0", "go 127 = 1", "sweet = 128", "go 254 = 1", "sweet = 129", "go 0 = 6", "sweet = 255");
        T.inHall("r001;g9000;c9000", "sweet = 3");
    }

    private static void sweetRefusals() {
        T.of("`int sweet()`: SWEET, as a set. STATE: there is no HALL.");
        T.refuses(States::empty, "sweet = STATE");
        T.refuses(States::rows, "sweet = STATE");
        T.refuses(States::over, "sweet = 7");
        SugarLoop x = new SugarLoop();
        Calls.furnish(x, "r001;g0000;");
        T.runs(x, "sweet = STATE");
    }

    private static void go() {
        T.of("A ROUND goes by POINTS: how many lumps are taken");
        T.inHall(NINES, "go 255 = 0", "go 0 = 36", "many 1 = 0", "go 0 = 0", "ofTable 3 5 = 9", "ofTable 4 5 = 0");
        SugarLoop x = Calls.with(NINES);
        T.runs(x, "go 0 = 36", "load 36 = 0", "clear = 36", "many 1 = 72", "go 0 = 72", "many 1 = 0", "sweet = 255");
    }

    private static void goRefusals() {
        T.of("STATE: there is no HALL; OUTSIDE: points (of TABLES that there are); STATE: no ROUND is left.");
        T.refuses(States::empty, "go 0 = STATE", "go -1 = STATE", "go 1 = STATE");
        T.refuses(States::rows, "go 0 = STATE", "go most = STATE");
        T.refuses(States::halfway, "go -1 = OUTSIDE", "go 8 = OUTSIDE", "go 256 = OUTSIDE", "go least = OUTSIDE",
            "go most = OUTSIDE");
        T.refuses(States::over, "go -1 = OUTSIDE", "go 8 = OUTSIDE", "go 0 = STATE", "go 7 = STATE");
        T.inHall("r014;g0000;g0000", "go 3 = 0", "go 4 = OUTSIDE", "many 3 = 1");
        T.inHall(ONES, "go 255 = 0", "go 256 = OUTSIDE", "many 3 = 1");
    }

    private static void goRounds() {
        T.of("STATE: no ROUND is left");
        for (int rounds = 1; rounds <= 4; rounds++) {
            SugarLoop x = Calls.with("r36" + rounds + ";g0939;g0939");
            for (int round = 0; round < rounds; round++) {
                T.runs(x, "many 3 = " + round, "go 3 = 0");
            }
            T.runs(x, "many 3 = " + rounds, "many 2 = " + rounds, "go 0 = STATE", "many 3 = " + rounds, "many 1 = 36",
                "clear = 0", "go 0 = 18", "many 3 = 1");
        }
    }

    private static void clear() {
        T.of("No ROUND has gone, nobody HAS anything");
        T.runs(States.begun(), "clear = 0", "many 1 = 12", "many 3 = 0");
        T.runs(States.halfway(), "clear = 5", "many 1 = 12", "many 3 = 0", "ofTable 0 5 = 0", "ofTable 2 5 = 0",
            "sweet = 0", "clear = 0", "many 1 = 12", "run 0 3 = 2");
        T.runs(States.over(), "clear = 9", "many 1 = 12", "many 2 = 3", "many 3 = 0", "go 0 = 9");
        // in the first minutes of all their tea is warm again
        T.inHall("r092;g0900;g0900", "go 3 = 0", "go 0 = 0", "clear = 0", "go 0 = 9", "ofTable 0 5 = 9", "clear = 9",
            "heat 1 1 = 0", "go 1 = 9", "ofTable 1 5 = 9", "clear = 9", "clear = 0");
    }

    private static void clearMoreThan36() {
        T.of("(LUMPS that TABLES HAD are on the train again, be they more than 36 then; READINGS stay): how many these were");
        T.inHall("r361;g0139;g0039", "go 0 = 1", "clear = 1", "many 1 = 36", "go 0 = 1", "load 36 = 35", "clear = 1",
            "many 1 = 37", "run 0 0 = 36", "load 36 = 37", "many 1 = 36");
        SugarLoop x = Calls.with(NINES);
        T.runs(x, "go 0 = 36", "load 36 = 0", "go 0 = 36", "load 36 = 0", "clear = 72", "many 1 = 108", "run 0 0 = 36",
            "run 0 1 = 8", "run 255 0 = 108", "lump 0 35 0 = 3", "lump 15 35 0 = 7", "lump 0 35 1 = 3",
            "lump 0 36 0 = OUTSIDE", "tea 0 = NONE", "enough 3 = 36", "enough 4 = NONE", "best 1 = 8", "odds 7 0 = 1",
            "odds 7 1 = 2", "go 0 = 72", "many 1 = 36", "clear = 72", "many 1 = 108", "load 0 = 108", "many 1 = 0");
    }

    private static void clearKeepsReadings() {
        T.of("READINGS stay");
        T.runs(States.full(), "clear = 0", "many 4 = 8", "reading 0 0 0 = FULL", "back 8 = 0");
        T.runs(States.halfway(), "ranks 1 = 7", "clear = 5", "many 4 = 2", "back 1 = 1", "ranks 1 = 31", "back 1 = 0",
            "ranks 1 = 1023");
    }

    private static void clearRefusals() {
        T.of("how many these were. STATE: there is no HALL.");
        T.refuses(States::empty, "clear = STATE");
        T.refuses(States::rows, "clear = STATE");
        T.refuses(States::begun, "clear = 0");
    }

    private static void run() {
        T.of("RUN by POINTS: LUMPS that are left (what 0), how many are SWEET then (1), SWEET, as a set (2)");
        T.inHall(NINES, "run 0 0 = 0", "run 0 1 = 4", "run 0 2 = 15", "run 255 0 = 36", "run 255 1 = 0", "run 255 2 = 0",
            "run 15 2 = 240", "run 127 0 = 27", "run 127 2 = 128", "load 0 = 36", "run 0 0 = 0", "run 0 1 = 0");
        T.inHall("r001;g0000;g9000", "run 0 1 = 2", "run 3 1 = 2", "run 3 2 = 3");
        T.inHall(ONES, "run 0 1 = 8", "run 0 2 = 255", "run 0 0 = 28");
    }

    private static void runLastMinute() {
        T.of("RUN by POINTS: LUMPS that are left (what 0), how many are SWEET then (1), SWEET, as a set (2), "
            + "the last MINUTE in which one is taken (3; NONE: none is)");
        T.inHall(ONES, "run 0 3 = 7", "run 128 3 = 6", "run 254 3 = 0", "run 255 3 = NONE", "load 0 = 36",
            "run 0 3 = NONE", "load 1 = 0", "run 0 3 = 0", "go 0 = 1", "run 0 3 = NONE", "load 1 = 0", "run 0 3 = 9");
        T.inHall("r361;g0039;g0039", "run 0 3 = NONE");
    }

    private static void runByTable() {
        T.of("how many TABLE t takes (10 and t; NONE: there is no such TABLE). STATE: there is no HALL; OUTSIDE: points");
        T.inHall(NINES, "run 0 10 = 9", "run 0 13 = 9", "run 0 14 = 0", "run 0 17 = 0", "run 127 17 = 9",
            "run 0 18 = OUTSIDE", "load 1 = 36", "run 127 17 = 1");
        T.inHall("r361;g0139;g0139", "run 0 10 = 1", "run 0 11 = 1", "run 0 12 = NONE", "run 0 17 = NONE",
            "run 0 18 = OUTSIDE", "run 0 9 = OUTSIDE");
        T.runs(States.halfway(), "run 0 10 = 0", "run 0 11 = 4", "run 0 12 = 0", "run 0 13 = NONE");
    }

    private static void runRefusals() {
        T.of("STATE: there is no HALL; OUTSIDE: points, what (0 .. 3, 10 .. 17)");
        T.refuses(States::empty, "run 0 0 = STATE", "run -1 0 = STATE", "run 0 4 = STATE");
        T.refuses(States::rows, "run 0 17 = STATE");
        T.refuses(States::halfway, "run -1 0 = OUTSIDE", "run 8 0 = OUTSIDE", "run least 0 = OUTSIDE",
            "run most 0 = OUTSIDE", "run 0 -1 = OUTSIDE", "run 0 4 = OUTSIDE", "run 0 9 = OUTSIDE", "run 0 18 = OUTSIDE",
            "run 0 least = OUTSIDE", "run 0 most = OUTSIDE", "run 8 18 = OUTSIDE", "run 7 0 = 7", "run 7 3 = NONE",
            "run 7 17 = NONE");
        T.inHall("r011;g0000;g0000", "run 3 0 = 1", "run 4 0 = OUTSIDE");
        T.inHall(ONES, "run 255 0 = 36", "run 256 0 = OUTSIDE");
    }

    private static void lump() {
        T.of("LUMP k (0 .. 35) of a RUN by POINTS: the TABLE that takes it (what 0), its MINUTE (1); "
            + "NONE: there is no such lump");
        T.inHall(NINES, "lump 0 0 0 = 0", "lump 0 8 0 = 0", "lump 0 9 0 = 1", "lump 0 35 0 = 3", "lump 0 35 1 = 3",
            "load 35 = 36", "lump 0 34 0 = 3", "lump 0 35 0 = NONE", "lump 0 35 1 = NONE", "load 0 = 35",
            "lump 0 0 0 = NONE", "lump 0 0 1 = NONE", "load 36 = 0", "lump 240 35 1 = 3", "lump 255 0 0 = NONE",
            "go 255 = 0", "go 255 = 0", "go 255 = 0", "lump 127 0 1 = 31", "lump 127 8 0 = 7", "lump 127 9 0 = NONE");
    }

    private static void lumpRefusals() {
        T.of("NONE: there is no such lump. STATE: there is no HALL; OUTSIDE: points, k, what.");
        T.refuses(States::empty, "lump 0 0 0 = STATE", "lump -1 36 2 = STATE");
        T.refuses(States::rows, "lump 0 36 0 = STATE");
        T.refuses(States::halfway, "lump -1 0 0 = OUTSIDE", "lump 8 0 0 = OUTSIDE", "lump 0 -1 0 = OUTSIDE",
            "lump 0 36 0 = OUTSIDE", "lump 0 0 -1 = OUTSIDE", "lump 0 0 2 = OUTSIDE", "lump least 0 0 = OUTSIDE",
            "lump most 0 0 = OUTSIDE", "lump 0 least 0 = OUTSIDE", "lump 0 most 0 = OUTSIDE", "lump 0 0 least = OUTSIDE",
            "lump 0 0 most = OUTSIDE", "lump 7 35 1 = NONE");
        T.refuses(States::over, "lump 8 0 0 = OUTSIDE", "lump 0 36 0 = OUTSIDE", "lump 0 0 0 = NONE");
    }

    private static void plan() {
        T.of("A PLAN of n such cells: LUMPS that are left (what 0), how many are SWEET then (1), SWEET, as a set (2)");
        SugarLoop x = Calls.with(NINES);
        Calls.write(x, 1, 1, 255, 15, 0, 0);
        T.runs(x, "plan 1 1 0 0 0 = 36", "plan 1 1 0 0 1 = 0", "plan 1 1 0 1 0 = 36", "plan 1 1 0 2 0 = 0",
            "plan 1 1 0 2 1 = 4", "plan 1 1 0 2 2 = 240", "plan 1 1 1 3 2 = 240", "plan 1 1 2 2 2 = 15",
            "plan 1 1 4 0 0 = 36", "plan 1 1 0 4 2 = 240");
    }

    private static void planLastMinute() {
        T.of("SWEET, as a set (2), the last MINUTE in which one is taken (3; NONE: none is), how many TABLE t takes "
            + "(10 and t; NONE: there is no such TABLE). UNKNOWN: SHEET");
        SugarLoop x = Calls.with(ONES);
        Calls.write(x, 1, 1, 255, 254, 129, 127);
        T.runs(x, "plan 1 1 0 0 3 = NONE", "plan 1 1 0 1 3 = NONE", "plan 1 1 0 2 3 = 8", "plan 1 1 0 3 3 = 22",
            "plan 1 1 0 4 3 = 31", "plan 1 1 3 1 3 = 7", "go 255 = 0", "plan 1 1 3 1 3 = 15", "plan 1 1 4 0 3 = NONE");
    }

    private static void planByTable() {
        T.of("how many TABLE t takes (10 and t; NONE: there is no such TABLE). UNKNOWN: SHEET");
        SugarLoop x = Calls.with(NINES);
        Calls.write(x, 1, 1, 127, 0, 0, 0);
        T.runs(x, "plan 1 1 0 1 17 = 9", "plan 1 1 0 1 10 = 0", "plan 1 1 0 2 12 = 9", "plan 1 1 0 2 13 = 0",
            "plan 1 1 0 0 17 = 0", "go 127 = 9", "plan 1 1 1 1 17 = 0");
        x = Calls.with("r014;g0139;g0139");
        x.sheet(0, 0, 1);
        T.runs(x, "plan 0 0 0 1 10 = 1", "plan 0 0 0 1 11 = 0", "plan 0 0 0 1 12 = NONE", "plan 0 0 0 0 17 = NONE",
            "plan 0 0 0 1 18 = OUTSIDE", "plan 0 0 0 1 9 = OUTSIDE");
    }

    private static void planCells() {
        T.of("OUTSIDE: a cell is no set of TABLES that there are");
        SugarLoop x = States.halfway();
        T.runs(x, "plan 0 0 4 1 0 = 7", "fault = 0", "plan 1 1 0 1 0 = 7", "plan 1 1 3 1 0 = 3", "plan 2 2 0 1 0 = 7");
        T.refuses(States::halfway, "plan 1 1 1 1 0 = OUTSIDE", "plan 1 1 0 2 0 = OUTSIDE", "plan 1 1 2 1 0 = OUTSIDE",
            "plan 1 1 2 2 0 = OUTSIDE", "plan 2 2 1 1 0 = OUTSIDE", "plan 2 2 2 1 0 = OUTSIDE",
            "plan 1 1 0 3 17 = OUTSIDE");
        // which sets there are depends on the tables, and on what is left of a number in its lane
        for (int lane = 0; lane < 3; lane++) {
            String plan = "plan 0 " + lane + " 0 1 0 = ";
            x = Calls.with(ONES);
            Calls.write(x, 0, lane, 127, 128, 255, 256, 65536 + 254, -1, Integer.MIN_VALUE, Integer.MAX_VALUE);
            T.runs(x, plan + "35", "plan 0 " + lane + " 1 1 0 = " + (lane == 0 ? "OUTSIDE" : "29"),
                "plan 0 " + lane + " 2 1 0 = " + (lane == 0 ? "OUTSIDE" : "36"),
                "plan 0 " + lane + " 3 1 0 = " + (lane == 0 ? "28" : "OUTSIDE"),
                "plan 0 " + lane + " 4 1 0 = " + (lane == 1 ? "35" : "OUTSIDE"),
                "plan 0 " + lane + " 5 1 0 = OUTSIDE",
                "plan 0 " + lane + " 6 1 0 = " + (lane == 2 ? "OUTSIDE" : "28"),
                "plan 0 " + lane + " 7 1 0 = OUTSIDE", "fault = 0");
            Calls.furnish(x, "r104;g0139;g0139");
            Calls.write(x, 0, lane, 3, 4);
            T.runs(x, plan + "10", "plan 0 " + lane + " 1 1 0 = OUTSIDE", "plan 0 " + lane + " 0 2 0 = OUTSIDE");
        }
    }

    private static void planRoundsLeft() {
        T.of("STATE: there are fewer ROUNDS left");
        for (int rounds = 1; rounds <= 4; rounds++) {
            SugarLoop x = Calls.with("r36" + rounds + ";g0939;g0939");
            Calls.write(x, 0, 0, 3, 3, 3, 3, 4);
            for (int gone = 0; gone <= rounds; gone++) {
                for (int n = 0; n <= 4; n++) {
                    T.runs(x, "plan 0 0 0 " + n + " 0 = " + (n <= rounds - gone ? "36" : "STATE"), "fault = 0");
                }
                x.go(3);
            }
            T.runs(x, "plan 0 0 4 1 0 = OUTSIDE", "plan 0 0 1 4 0 = OUTSIDE", "plan 0 0 2 4 0 = INDEX");
        }
        T.refuses(States::over, "plan 0 0 0 1 0 = STATE", "plan 0 0 0 0 0 = 3", "plan 0 0 0 4 2 = STATE");
        T.refuses(States::halfway, "plan 0 0 0 3 0 = STATE", "plan 0 0 0 2 0 = 3");
    }

    private static void planRefusals() {
        T.of("UNKNOWN: SHEET; OUTSIDE: lane, n (0 .. 4), what (0 .. 3, 10 .. 17); STATE: there is no HALL; CAST; NULL; "
            + "INDEX; OUTSIDE: a cell is no set of TABLES that there are; STATE: there are fewer ROUNDS left.");
        T.refuses(States::halfway, "plan 4 3 -1 5 4 = UNKNOWN", "plan -1 0 0 0 0 = UNKNOWN", "plan 0 3 0 0 0 = OUTSIDE",
            "plan 0 -1 0 0 0 = OUTSIDE", "plan 0 least 0 0 0 = OUTSIDE", "plan 0 most 0 0 0 = OUTSIDE",
            "plan 0 0 0 -1 0 = OUTSIDE", "plan 0 0 0 5 0 = OUTSIDE", "plan 0 0 0 least 0 = OUTSIDE",
            "plan 0 0 0 most 0 = OUTSIDE", "plan 0 0 0 0 -1 = OUTSIDE", "plan 0 0 0 0 4 = OUTSIDE",
            "plan 0 0 0 0 9 = OUTSIDE", "plan 0 0 0 0 18 = OUTSIDE", "plan 0 0 0 0 least = OUTSIDE",
            "plan 0 0 0 0 most = OUTSIDE", "plan 3 3 0 0 0 = OUTSIDE", "plan 0 1 -1 5 0 = OUTSIDE",
            "plan 0 1 -1 0 4 = OUTSIDE", "plan 0 0 0 0 17 = NONE", "plan 0 0 0 0 3 = NONE", "plan 1 1 1 3 0 = OUTSIDE");
        T.refuses(States::rows, "plan 4 0 0 0 0 = UNKNOWN", "plan 0 3 0 0 0 = OUTSIDE", "plan 0 0 0 5 0 = OUTSIDE",
            "plan 0 0 0 0 18 = OUTSIDE", "plan 0 0 0 1 0 = STATE", "plan 0 1 -1 0 0 = STATE", "plan 3 0 -1 4 0 = STATE");
    }

    private static void planFaults() {
        T.of("STATE: there is no HALL; CAST; NULL; INDEX; OUTSIDE: a cell");
        T.refuses(States::halfway, "plan 0 1 -1 4 0 = CAST", "plan 1 0 0 0 0 = CAST", "plan 2 0 9 1 0 = CAST",
            "plan 3 0 -1 4 0 = NULL", "plan 3 1 0 0 0 = NULL", "plan 3 2 0 0 0 = NULL", "plan 1 1 -1 0 0 = INDEX",
            "plan 1 1 -1 1 0 = INDEX", "plan 1 1 5 0 0 = INDEX", "plan 1 1 4 1 0 = INDEX", "plan 1 1 1 4 0 = INDEX",
            "plan 2 2 0 4 0 = INDEX", "plan 1 1 least 0 0 = INDEX", "plan 1 1 most 4 0 = INDEX",
            "plan 1 1 most 0 0 = INDEX", "plan 1 1 4 0 0 = 7", "plan 0 0 5 0 0 = 7");
        T.refuses(States::over, "plan 0 0 2 4 0 = INDEX", "plan 2 2 0 4 0 = INDEX");
    }
}
