/** Each promise by answers worked out by hand: ordinary inputs, edges, wrong inputs. */
public final class PromiseTest {
    private static final Due DUE = new Due("PromiseTest");
    private static final int UNKNOWN = -1, OUTSIDE = -2, STATE = -3, FULL = -4, NONE = -9;
    private static final int NULL = -11, CAST = -12, INDEX = -13, SIZE = -14;
    private static final long LOST = Long.MIN_VALUE;

    /** Eight lumps, two rounds; LEAVES are 2, 3, 3; the DUKE's tea is cold when the train comes. */
    private static final String THREE = "r082;g2305;d2400;c5209";
    private static final String EIGHT =
        "r364;g0939;g1839;d0739;d1639;c0539;c9439;g9339;c2239";

    public static void main(String[] args) {
        newObject();
        hallTexts();
        hallFirstFaults();
        hallRefusals();
        hallMakesAllAnew();
        ofTable();
        bowHeatLoad();
        sweetGo();
        minutes();
        clear();
        run();
        lump();
        plan();
        planRefusals();
        best();
        enoughTea();
        swap();
        readings();
        fitting();
        odds();
        sheets();
        cells();
        copy();
        tellPour();
        as();
        faults();
        DUE.end();
    }

    private static void newObject() {
        SugarLoop x = new SugarLoop();
        for (int what = 0; what <= 4; what++) {
            DUE.is("new many " + what, x.many(what), 0);
        }
        DUE.is("new trace", x.trace(), 0);
        DUE.is("new fault", x.fault(), 0);
        for (int k = 0; k < 4; k++) {
            DUE.is("new put " + k, x.put(k, 0, 1), NULL);
            DUE.is("new lose " + k, x.lose(k), 0);
        }
        int[] unknown = {x.ofTable(0, 0), x.bow(0, 0), x.heat(0, 0), x.enough(0), x.reading(0, 0, 0),
            x.ranks(0), x.kinds(0), x.wants(0), x.tell(0), x.pour(0), x.as(0, 0)};
        for (int u = 0; u < unknown.length; u++) {
            DUE.is("new, of a table, " + u, unknown[u], UNKNOWN);
        }
        DUE.is("new odds", x.odds(0, 0), LOST);
        int[] state = {x.load(0), x.sweet(), x.go(0), x.clear(), x.run(0, 0), x.lump(0, 0, 0),
            x.best(0), x.tea(0), x.swap(0), x.plan(0, 0, 0, 0, 0)};
        for (int s = 0; s < state.length; s++) {
            DUE.is("new, without a hall, " + s, state[s], STATE);
        }
        DUE.is("new back 0", x.back(0), 0);
        DUE.is("new back 1", x.back(1), OUTSIDE);
        // without a hall these are told of first
        DUE.is("new run, all wrong", x.run(-1, -1), STATE);
        DUE.is("new lump, all wrong", x.lump(-1, -1, -1), STATE);
        DUE.is("new go -1", x.go(-1), STATE);
        // and these only after a wrong number
        DUE.is("new load 37", x.load(37), OUTSIDE);
        DUE.is("new best 2", x.best(2), OUTSIDE);
        DUE.is("new tea 2", x.tea(2), OUTSIDE);
        DUE.is("new swap 3", x.swap(3), OUTSIDE);
    }

    private static void hallTexts() {
        for (int lane = 0; lane < 3; lane++) {
            SugarLoop x = new SugarLoop();
            Calls.write(x, 1, lane, "zz" + THREE + "z");
            DUE.is("hall within a row", x.hall(1, lane, 2, 22), 3);
            DUE.is("lumps", x.many(1), 8);
            DUE.is("rounds", x.many(2), 2);
        }
        SugarLoop x = new SugarLoop();
        DUE.is("two tables", Calls.furnish(x, "r001;g0000;d0000"), 2);
        DUE.is("lumps 00", x.many(1), 0);
        DUE.is("eight tables", Calls.furnish(x, EIGHT), 8);
        DUE.is("lumps 36", x.many(1), 36);
        DUE.is("rounds 4", x.many(2), 4);
        DUE.is("warm 39", x.ofTable(7, 3), 39);
        DUE.is("lumps 29", Calls.furnish(x, "r291;g0000;d0000"), 2);
        DUE.is("warm 29", Calls.furnish(x, "r291;g0029;d0000"), 2);
    }

    private static void hallFirstFaults() {
        String[] wrong = {"R", "", "r4", "r-", "r37", "r2x", "r1:", "r3;", "r365", "r360", "r361g", "r361;G",
            "r361;gg", "r361;g0-", "r361;g004", "r361;g003:", "r361;g0000", "r361;g0000g", "r361;g0000;x",
            "r361;g0000;d", "r361;g0000;d9", "r361;g0000;d9939", EIGHT + ";", EIGHT + "g", EIGHT + ";g0000",
            "x082;g2305;d2400", "r082;g2305;d2400;", "r082;g2305;d2400;c520", "r082;g2305;d24009"};
        int[] places = {0, 0, 1, 1, 2, 2, 2, 2, 3, 3, 4, 5,
            6, 7, 8, 9, 10, 10, 11,
            12, 13, -1, 52, 52, 52,
            0, 17, 21, 16};
        SugarLoop x = Calls.with(THREE);
        for (int w = 0; w < wrong.length; w++) {
            int want = places[w] < 0 ? 2 : -100 - places[w];
            DUE.is("hall of " + wrong[w], Calls.furnish(x, wrong[w]), want);
            if (want == 2) {
                Calls.furnish(x, THREE);
            }
            DUE.is("is no fault", x.fault(), 0);
            DUE.is("the hall stays", x.many(0), 3);
        }
        Calls.write(x, 0, 2, 'r' + 256, '0', '8');
        DUE.is("a code that is cut only in its row", x.hall(0, 2, 0, 3), -100);
        Calls.write(x, 0, 0, 'r' + 256, '0', '8');
        DUE.is("a code that is cut in its row", x.hall(0, 0, 0, 3), -103);
    }

    private static void hallRefusals() {
        SugarLoop x = new SugarLoop();
        Calls.write(x, 1, 1, THREE);
        DUE.is("no sheet", x.hall(4, 9, -1, -1), UNKNOWN);
        DUE.is("no sheet -1", x.hall(-1, 0, 0, 0), UNKNOWN);
        DUE.is("no lane", x.hall(1, 3, -1, -1), OUTSIDE);
        DUE.is("no lane -1", x.hall(0, -1, 0, 0), OUTSIDE);
        DUE.is("cast before size", x.hall(1, 0, -1, -1), CAST);
        DUE.is("null before size", x.hall(0, 0, -1, -1), NULL);
        DUE.is("size before index", x.hall(1, 1, -1, -1), SIZE);
        DUE.is("index below", x.hall(1, 1, -1, 0), INDEX);
        DUE.is("index beyond", x.hall(1, 1, 1, 22), INDEX);
        DUE.is("index beyond, none taken", x.hall(1, 1, 23, 0), INDEX);
        DUE.is("index far beyond", x.hall(1, 1, 2, Integer.MAX_VALUE), INDEX);
        DUE.is("the end, none taken", x.hall(1, 1, 22, 0), -100);
        DUE.is("no hall came of it", x.many(0), 0);
        DUE.is("the row itself", x.hall(1, 1, 0, 22), 3);
    }

    private static void hallMakesAllAnew() {
        SugarLoop x = Calls.with(THREE);
        x.reading(0, 0, 3);
        x.go(0);
        x.bow(0, 9);
        x.tell(0);
        int trace = x.trace();
        x.sheet(2, 2, 5);
        x.put(2, 4, 77);
        DUE.is("the same hall once more", x.hall(3, 0, 0, 22), 3);
        DUE.is("no round has gone", x.many(3), 0);
        DUE.is("no readings", x.many(4), 0);
        DUE.is("lumps", x.many(1), 8);
        DUE.is("nobody has anything", x.ofTable(0, 5), 0);
        DUE.is("rank as told", x.ofTable(0, 1), 2);
        DUE.is("trace stays", x.trace(), trace);
        DUE.is("sheets stay", x.cell(2, 4, 2), 77);
        Calls.furnish(x, "r011;c9139;g0001");
        DUE.is("fewer tables", x.ofTable(2, 0), UNKNOWN);
        DUE.is("another kind", x.ofTable(0, 0), 2);
    }

    private static void ofTable() {
        SugarLoop x = Calls.with(THREE);
        int[][] want = {{0, 2, 3, 5, 2, 0}, {1, 2, 4, 0, 3, 0}, {2, 5, 2, 9, 3, 0}};
        for (int t = 0; t < 3; t++) {
            for (int what = 0; what < 6; what++) {
                DUE.is("table " + t + ", " + what, x.ofTable(t, what), want[t][what]);
            }
        }
        x.go(0);
        DUE.is("has 3", x.ofTable(0, 5), 3);
        DUE.is("has none", x.ofTable(1, 5), 0);
        DUE.is("has 2", x.ofTable(2, 5), 2);
        DUE.is("no table before what", x.ofTable(3, 9), UNKNOWN);
        DUE.is("no table -1", x.ofTable(-1, 0), UNKNOWN);
        DUE.is("what 6", x.ofTable(2, 6), OUTSIDE);
        DUE.is("what -1", x.ofTable(2, -1), OUTSIDE);
        Calls.furnish(x, "r011;c0000;c1000;c8000;c9000;d9000;d0000;g9000");
        int[] leaves = {0, 1, 4, 5, 10, 1, 9};
        for (int t = 0; t < 7; t++) {
            DUE.is("leaves of " + t, x.ofTable(t, 4), leaves[t]);
        }
    }

    private static void bowHeatLoad() {
        SugarLoop x = Calls.with(THREE);
        DUE.is("bow", x.bow(2, 9), 5);
        DUE.is("bow to least", x.bow(2, 0), 9);
        DUE.is("rank", x.ofTable(2, 1), 0);
        DUE.is("leaves", x.ofTable(2, 4), 0);
        DUE.is("bow 10", x.bow(2, 10), OUTSIDE);
        DUE.is("bow -1", x.bow(2, -1), OUTSIDE);
        DUE.is("bow, no table", x.bow(3, 10), UNKNOWN);
        DUE.is("bow changed nothing", x.ofTable(2, 1), 0);
        DUE.is("heat", x.heat(1, 39), 0);
        DUE.is("heat to least", x.heat(1, 0), 39);
        DUE.is("warm", x.ofTable(1, 3), 0);
        DUE.is("heat 40", x.heat(1, 40), OUTSIDE);
        DUE.is("heat -1", x.heat(1, -1), OUTSIDE);
        DUE.is("heat, no table", x.heat(-1, 40), UNKNOWN);
        DUE.is("load", x.load(36), 8);
        DUE.is("load none", x.load(0), 36);
        DUE.is("load 37", x.load(37), OUTSIDE);
        DUE.is("load -1", x.load(-1), OUTSIDE);
        DUE.is("loaded", x.many(1), 0);
    }

    private static void sweetGo() {
        SugarLoop x = Calls.with(THREE);
        DUE.is("none sweet yet", x.sweet(), 0);
        DUE.is("go -1", x.go(-1), OUTSIDE);
        DUE.is("go 8", x.go(8), OUTSIDE);
        DUE.is("go by 4", x.go(4), 3);
        DUE.is("sweet 0", x.sweet(), 1);
        DUE.is("lumps", x.many(1), 5);
        DUE.is("gone", x.many(3), 1);
        DUE.is("go by none", x.go(0), 2);
        DUE.is("sweet 0, 2", x.sweet(), 5);
        DUE.is("go, points first", x.go(8), OUTSIDE);
        DUE.is("go, no round", x.go(0), STATE);
        DUE.is("gone stays", x.many(3), 2);
        x.heat(1, 39);
        x.load(36);
        DUE.is("a run without rounds", x.run(0, 0), 36);
        DUE.is("a run without rounds takes none", x.run(0, 11), 0);
        DUE.is("nor a lump", x.lump(0, 0, 0), NONE);
        DUE.is("rounds in all", x.many(2), 2);
        Calls.furnish(x, "r011;g0000;g9000");
        DUE.is("who wants none is sweet", x.sweet(), 3);
        Calls.furnish(x, EIGHT);
        DUE.is("go by eight tables", x.go(0), 35);
        DUE.is("the last but one takes none", x.ofTable(6, 5), 0);
        DUE.is("they give them back", x.clear(), 35);
        Calls.furnish(x, "r052;g4909;g0009");
        DUE.is("no more than above what it leaves", x.go(0), 1);
        DUE.is("none is above", x.go(0), 0);
    }

    /** A table takes in its minute of warm, not after it, and minutes go on through the rounds. */
    private static void minutes() {
        int[] warm = {0, 1, 3, 4};
        int[] first = {0, 2, 2, 2};
        int[] second = {0, 0, 0, 2};
        for (int w = 0; w < warm.length; w++) {
            SugarLoop x = Calls.with(THREE);
            x.heat(1, warm[w]);
            DUE.is("warm " + warm[w] + ", minute 1", x.go(4), 3 + first[w]);
            x.clear();
            x.go(7);
            DUE.is("warm " + warm[w] + ", minute 4", x.go(5), second[w] == 0 ? 0 : 4);
        }
    }

    private static void clear() {
        SugarLoop x = Calls.with(THREE);
        x.reading(0, 0, 3);
        x.go(0);
        DUE.is("clear", x.clear(), 5);
        DUE.is("lumps are back", x.many(1), 8);
        DUE.is("no round has gone", x.many(3), 0);
        DUE.is("readings stay", x.many(4), 1);
        DUE.is("none sweet", x.sweet(), 0);
        DUE.is("clear again", x.clear(), 0);
        Calls.furnish(x, "r364;g0939;g0939");
        DUE.is("go", x.go(0), 18);
        DUE.is("load", x.load(36), 18);
        DUE.is("clear, more than 36", x.clear(), 18);
        DUE.is("54 on the train", x.many(1), 54);
        DUE.is("run", x.run(0, 0), 36);
        DUE.is("load tells them", x.load(1), 54);
    }

    private static void run() {
        SugarLoop x = Calls.with(THREE);
        x.heat(1, 39);
        int[][] want = {{0, 3, 1, 1, 1, 3, 2, 0}, {1, 3, 1, 2, 2, 0, 4, 1}, {2, 3, 2, 5, 2, 3, 0, 2},
            {4, 3, 1, 1, 1, 3, 2, 0}, {7, 8, 0, 0, NONE, 0, 0, 0}};
        for (int[] w : want) {
            for (int what = 0; what < 4; what++) {
                DUE.is("run by " + w[0] + ", " + what, x.run(w[0], what), w[1 + what]);
            }
            for (int t = 0; t < 3; t++) {
                DUE.is("run by " + w[0] + ", table " + t, x.run(w[0], 10 + t), w[5 + t]);
            }
            DUE.is("no table 3", x.run(w[0], 13), NONE);
            DUE.is("no table 7", x.run(w[0], 17), NONE);
        }
        int[][] wrong = {{-1, 0}, {8, 0}, {0, -1}, {0, 4}, {0, 9}, {0, 18}, {0, Integer.MIN_VALUE}};
        for (int[] w : wrong) {
            DUE.is("run by " + w[0] + ", " + w[1], x.run(w[0], w[1]), OUTSIDE);
        }
        x.go(0);
        DUE.is("after a round, what is taken from now on", x.run(0, 10), 0);
        DUE.is("the last minute from now on", x.run(0, 3), NONE);
        x.load(36);
        DUE.is("minutes are counted on", x.run(0, 3), 5);
        DUE.is("nothing is changed", x.ofTable(2, 5) + x.many(3), 1);
    }

    private static void lump() {
        SugarLoop x = Calls.with(THREE);
        x.heat(1, 39);
        int[] tables = {1, 1, 1, 1, 2, NONE};
        for (int k = 0; k < tables.length; k++) {
            DUE.is("lump " + k, x.lump(1, k, 0), tables[k]);
            DUE.is("lump's minute " + k, x.lump(1, k, 1), tables[k]);
        }
        DUE.is("lump 35", x.lump(0, 35, 0), NONE);
        int[][] wrong = {{-1, 0, 0}, {8, 0, 0}, {0, -1, 0}, {0, 36, 0}, {0, 0, 2}, {0, 0, -1}};
        for (int[] w : wrong) {
            DUE.is("lump " + w[0] + " " + w[1] + " " + w[2], x.lump(w[0], w[1], w[2]), OUTSIDE);
        }
        x.go(7);
        DUE.is("in the second round", x.lump(0, 3, 0), 1);
        DUE.is("its minute", x.lump(0, 3, 1), 4);
        DUE.is("numbered from 0 on again", x.lump(0, 0, 1), 3);
        Calls.furnish(x, "r364;g0939;g0939;g0939;g0939");
        DUE.is("the last of 36", x.lump(0, 35, 0), 3);
        DUE.is("its minute", x.lump(0, 35, 1), 3);
        Calls.furnish(x, EIGHT);
        DUE.is("the last of 35", x.lump(0, 34, 0), 4);
        DUE.is("none is the 36th", x.lump(0, 35, 0), NONE);
    }

    private static void plan() {
        for (int lane = 0; lane < 3; lane++) {
            SugarLoop x = Calls.with(THREE);
            x.heat(1, 39);
            Calls.write(x, lane, lane, 9, 7, 0, 2, 1, 9);
            int[][] want = {{1, 0, 8, 0, 0, NONE}, {1, 1, 8, 0, 0, NONE}, {1, 2, 3, 1, 1, 4},
                {2, 1, 3, 1, 1, 1}, {3, 2, 3, 2, 5, 2}, {4, 1, 3, 1, 2, 2}, {6, 0, 8, 0, 0, NONE}};
            for (int[] w : want) {
                for (int what = 0; what < 4; what++) {
                    DUE.is("plan " + w[0] + " " + w[1] + " " + what,
                        x.plan(lane, lane, w[0], w[1], what), w[2 + what]);
                }
            }
            DUE.is("table 0", x.plan(lane, lane, 1, 2, 10), 3);
            DUE.is("table 1", x.plan(lane, lane, 1, 2, 11), 2);
            DUE.is("table 2", x.plan(lane, lane, 1, 2, 12), 0);
            DUE.is("no table 3", x.plan(lane, lane, 1, 2, 13), NONE);
            DUE.is("nothing is changed", x.many(1) + x.many(3), 8);
            x.go(0);
            DUE.is("one round is left", x.plan(lane, lane, 1, 1, 0), 3);
            DUE.is("what is taken from now on", x.plan(lane, lane, 2, 1, 10), 0);
            DUE.is("two are not left", x.plan(lane, lane, 1, 2, 0), STATE);
            DUE.is("a cell is no set first", x.plan(lane, lane, 0, 2, 0), OUTSIDE);
        }
    }

    private static void planRefusals() {
        SugarLoop x = new SugarLoop();
        x.sheet(1, 1, 4);
        DUE.is("no sheet", x.plan(4, 9, 0, 9, 9), UNKNOWN);
        DUE.is("no sheet -1", x.plan(-1, 0, 0, 0, 0), UNKNOWN);
        int[][] wrong = {{3, 0, 0}, {-1, 0, 0}, {1, 5, 0}, {1, -1, 0}, {1, 0, 4}, {1, 0, 9}, {1, 0, 18}, {1, 0, -1}};
        for (int[] w : wrong) {
            DUE.is("plan " + w[0] + " " + w[1] + " " + w[2], x.plan(1, w[0], 0, w[1], w[2]), OUTSIDE);
        }
        DUE.is("no hall before cast", x.plan(1, 0, -1, 0, 0), STATE);
        Calls.furnish(x, "r084;g2305;d2400");
        DUE.is("cast before index", x.plan(1, 0, -1, 0, 0), CAST);
        DUE.is("null before index", x.plan(0, 0, -1, 0, 0), NULL);
        DUE.is("index below", x.plan(1, 1, -1, 1, 0), INDEX);
        DUE.is("index beyond", x.plan(1, 1, 1, 4, 0), INDEX);
        DUE.is("index beyond, none taken", x.plan(1, 1, 5, 0, 0), INDEX);
        DUE.is("the end, none taken", x.plan(1, 1, 4, 0, 0), 8);
        DUE.is("four rounds", x.plan(1, 1, 0, 4, 0), 5);
        x.put(1, 3, -1);
        DUE.is("a cell below", x.plan(1, 1, 0, 4, 0), OUTSIDE);
        x.put(1, 3, 4);
        DUE.is("a cell beyond", x.plan(1, 1, 0, 4, 0), OUTSIDE);
        x.put(1, 3, 3);
        DUE.is("all tables", x.plan(1, 1, 0, 4, 0), 5);
    }

    private static void best() {
        SugarLoop x = Calls.with(THREE);
        x.heat(1, 39);
        DUE.is("best", x.best(0), 2);
        DUE.is("how many", x.best(1), 2);
        DUE.is("what 2", x.best(2), OUTSIDE);
        DUE.is("what -1", x.best(-1), OUTSIDE);
        // by {0, 1} two are sweet, too, but these are more tables than {2}
        Calls.furnish(x, "r062;c0302;g4304;c1304;g1205");
        DUE.is("by 3", x.run(3, 2), 12);
        DUE.is("by 4", x.run(4, 2), 9);
        DUE.is("fewest are passed by", x.best(0), 4);
        DUE.is("how many then", x.best(1), 2);
        // by both of the first two, but by neither alone, one is sweet
        Calls.furnish(x, "r021;g1239;g1239;g0239");
        DUE.is("by none", x.run(0, 1), 0);
        DUE.is("by 1", x.run(1, 1), 0);
        DUE.is("by 3", x.run(3, 2), 4);
        DUE.is("both of them", x.best(0), 3);
        Calls.furnish(x, "r031;g0239;g0239;g9939");
        DUE.is("none is needed", x.best(0), 0);
        Calls.furnish(x, "r041;g3939;g2239;g2239");
        DUE.is("by the first", x.best(0), 1);
        DUE.is("one is sweet by it", x.best(1), 1);
        Calls.furnish(x, "r041;g0239;g0239;g0139;g0139");
        DUE.is("three by 1", x.run(1, 1), 3);
        DUE.is("three by 2", x.run(2, 1), 3);
        DUE.is("the least of both", x.best(0), 1);
        DUE.is("three are sweet by it", x.best(1), 3);
    }

    private static void enoughTea() {
        SugarLoop x = Calls.with(THREE);
        DUE.is("a cold one's", x.enough(1), NONE);
        DUE.is("all with it", x.tea(0), NONE);
        DUE.is("wagons of none", x.tea(1), NONE);
        x.heat(1, 39);
        DUE.is("enough 0", x.enough(0), 5);
        DUE.is("enough 1", x.enough(1), 10);
        DUE.is("enough 2", x.enough(2), 12);
        DUE.is("tea", x.tea(0), 12);
        DUE.is("wagons, full", x.tea(1), 2);
        x.bow(2, 7);
        DUE.is("tea, one more", x.tea(0), 13);
        DUE.is("wagons, rounded up", x.tea(1), 3);
        DUE.is("no table", x.enough(3), UNKNOWN);
        DUE.is("no table -1", x.enough(-1), UNKNOWN);
        DUE.is("what 2", x.tea(2), OUTSIDE);
        DUE.is("what -1", x.tea(-1), OUTSIDE);
        DUE.is("lumps stay", x.many(1), 8);
        x.go(0);
        DUE.is("from how all is now", x.enough(0), 0);
        DUE.is("the other two want 2 each, and one leaves 4", x.tea(0), 8);
        Calls.furnish(x, "r001;g9909;g9909;g9909");
        DUE.is("36 are enough", x.tea(0), 36);
        DUE.is("six wagons", x.tea(1), 6);
        Calls.furnish(x, "r001;g9909;g9909;d9909");
        DUE.is("37 are too many", x.tea(0), NONE);
        Calls.furnish(x, "r361;g9000;g9000");
        DUE.is("none is enough", x.tea(0), 0);
        DUE.is("no wagon", x.tea(1), 0);
    }

    private static void swap() {
        SugarLoop x = Calls.with("r061;g0339;g5139;g5139");
        DUE.is("without", x.run(0, 1), 1);
        DUE.is("sweet then", x.swap(0), 2);
        DUE.is("the least lesser", x.swap(1), 0);
        DUE.is("the least greater", x.swap(2), 1);
        DUE.is("what 3", x.swap(3), OUTSIDE);
        DUE.is("what -1", x.swap(-1), OUTSIDE);
        DUE.is("places stay", x.ofTable(0, 1) + x.many(1), 6);
        Calls.furnish(x, "r061;g0309;g0300");
        DUE.is("their tea goes with them", x.swap(0), 2);
        Calls.furnish(x, "r062;g0209;g5109");
        DUE.is("of two", x.swap(0), 2);
        x.go(2);
        DUE.is("what they have goes with them", x.swap(0), NONE);
        DUE.is("none, lesser", x.swap(1), NONE);
        DUE.is("none, greater", x.swap(2), NONE);
        Calls.furnish(x, "r051;g0539;g0139;g5139;g0139");
        DUE.is("by a greater second place", x.swap(0), 2);
        DUE.is("lesser", x.swap(1), 0);
        DUE.is("greater", x.swap(2), 3);
        Calls.furnish(x, "r051;g0239;g0539;g0139");
        DUE.is("by a greater first place", x.swap(0), 2);
        DUE.is("lesser", x.swap(1), 1);
        DUE.is("greater", x.swap(2), 2);
    }

    private static void readings() {
        SugarLoop x = Calls.with(THREE);
        DUE.is("no table", x.reading(3, 9, 99), UNKNOWN);
        DUE.is("points", x.reading(0, 8, 0), OUTSIDE);
        DUE.is("points -1", x.reading(0, -1, 0), OUTSIDE);
        DUE.is("v 37", x.reading(0, 0, 37), OUTSIDE);
        DUE.is("v -1", x.reading(0, 0, -1), OUTSIDE);
        for (int k = 0; k < 8; k++) {
            DUE.is("reading " + k, x.reading(2, 7, k == 0 ? 36 : 0), k);
        }
        DUE.is("full", x.reading(0, 0, 0), FULL);
        DUE.is("outside before full", x.reading(0, 8, 0), OUTSIDE);
        DUE.is("many", x.many(4), 8);
        DUE.is("back 9", x.back(9), OUTSIDE);
        DUE.is("back -1", x.back(-1), OUTSIDE);
        DUE.is("back 0", x.back(0), 8);
        DUE.is("back 3", x.back(3), 5);
        DUE.is("next", x.reading(0, 0, 3), 5);
        DUE.is("the first is never so", x.kinds(0), 0);
        DUE.is("back all", x.back(6), 0);
        DUE.is("without readings", x.kinds(0), 7);
    }

    private static void fitting() {
        SugarLoop x = Calls.with(THREE);
        x.heat(1, 39);
        DUE.is("all ranks", x.ranks(0), 1023);
        DUE.is("all wants", x.wants(0), 1023);
        x.reading(0, 0, 3);
        DUE.is("ranks 0 .. 5", x.ranks(0), 63);
        DUE.is("all kinds", x.kinds(0), 7);
        DUE.is("it wants 3", x.wants(0), 8);
        x.bow(0, 5);
        DUE.is("no duke", x.kinds(0), 5);
        x.bow(0, 6);
        DUE.is("a child alone", x.kinds(0), 4);
        DUE.is("ranks in place of its own", x.ranks(0), 63);
        DUE.is("none by want alone", x.wants(0), 0);
        DUE.is("its own stays", x.ofTable(0, 0) + x.ofTable(0, 1) + x.ofTable(0, 2), 9);
        x.bow(0, 2);
        x.reading(1, 1, 4);
        DUE.is("the second reading of another", x.ranks(1), 15);
        DUE.is("and of the first", x.wants(0), 8);
        x.reading(0, 1, 0);
        DUE.is("who is passed by takes none", x.wants(0), 8);
        x.reading(1, 0, 2);
        DUE.is("another's want by what is left", x.wants(1), 16);
        x.go(7);
        DUE.is("from how all is now", x.wants(0), 8);
        x.clear();
        x.go(0);
        DUE.is("after it took", x.ranks(0), 0);
        DUE.is("no table", x.ranks(3), UNKNOWN);
        DUE.is("no table", x.kinds(3), UNKNOWN);
        DUE.is("no table", x.wants(-1), UNKNOWN);
    }

    private static void odds() {
        SugarLoop x = Calls.with(THREE);
        x.heat(1, 39);
        int[][] want = {{1, 2}, {1, 4}, {1, 4}};
        for (int t = 0; t < 3; t++) {
            DUE.is("upper of " + t, x.odds(t, 0), want[t][0]);
            DUE.is("lower of " + t, x.odds(t, 1), want[t][1]);
        }
        DUE.is("no table", x.odds(3, 0), LOST);
        DUE.is("no table -1", x.odds(-1, 0), LOST);
        DUE.is("which 2", x.odds(0, 2), LOST);
        DUE.is("which -1", x.odds(0, -1), LOST);
        x.go(0);
        DUE.is("sure", x.odds(0, 0), 1);
        DUE.is("sure of one", x.odds(0, 1), 1);
        DUE.is("never", x.odds(2, 0), 0);
        DUE.is("never of one", x.odds(2, 1), 1);
        // the second is sweet unless it is passed by or the first leaves it too few: 1 of 4
        Calls.furnish(x, "r041;g0239;g0339;g0039");
        DUE.is("upper", x.odds(1, 0), 1);
        DUE.is("lower", x.odds(1, 1), 4);
        // the third is sweet by any set without it in which the first or the second is
        Calls.furnish(x, "r031;g1139;g1139;g0239");
        DUE.is("three upper", x.odds(2, 0), 3);
        DUE.is("three lower", x.odds(2, 1), 8);
    }

    private static void sheets() {
        SugarLoop x = new SugarLoop();
        DUE.is("no sheet", x.sheet(4, 3, 61), UNKNOWN);
        DUE.is("no sheet -1", x.sheet(-1, 0, 1), UNKNOWN);
        DUE.is("no lane", x.sheet(0, 3, -1), OUTSIDE);
        DUE.is("no lane -1", x.sheet(0, -1, 1), OUTSIDE);
        DUE.is("61", x.sheet(0, 0, 61), OUTSIDE);
        DUE.is("size", x.sheet(0, 0, -1), SIZE);
        DUE.is("still nothing", x.lose(0), 0);
        DUE.is("60", x.sheet(0, 0, 60), 1);
        DUE.is("put the last", x.put(0, 59, 5), 1);
        DUE.is("size, nothing is changed", x.sheet(0, 0, Integer.MIN_VALUE), SIZE);
        DUE.is("the last", x.cell(0, 59, 0), 5);
        DUE.is("a new one", x.sheet(0, 2, 60), 1);
        DUE.is("is 0", x.cell(0, 59, 2), 0);
        DUE.is("none", x.sheet(0, 1, 0), 1);
        DUE.is("has no cell", x.put(0, 0, 1), INDEX);
        DUE.is("lose", x.lose(0), 1);
        DUE.is("lose again", x.lose(0), 0);
        DUE.is("lose 4", x.lose(4), UNKNOWN);
        DUE.is("lose -1", x.lose(-1), UNKNOWN);
        DUE.is("lost", x.put(0, 0, 1), NULL);
        x.sheet(0, 0, 2);
        x.put(0, 1, 9);
        x.sheet(0, 0, 1);
        x.sheet(0, 0, 2);
        DUE.is("a longer row is all 0", x.cell(0, 1, 0), 0);
    }

    private static void cells() {
        SugarLoop x = new SugarLoop();
        int[] put = {0, 127, 128, 255, 256, -1, 32768, 70001, Integer.MIN_VALUE, Integer.MAX_VALUE};
        int[][] want = {{0, 127, -128, -1, 0, -1, 0, 113, 0, -1},
            {0, 127, 128, 255, 256, -1, -32768, 4465, 0, -1}, put};
        for (int lane = 0; lane < 3; lane++) {
            x.sheet(lane, lane, 10);
            for (int i = 0; i < 10; i++) {
                DUE.is("put", x.put(lane, i, put[i]), 1);
                DUE.is("lane " + lane + ", " + put[i], x.cell(lane, i, lane), want[lane][i]);
            }
            DUE.is("put beyond", x.put(lane, 10, 1), INDEX);
            DUE.is("put below", x.put(lane, -1, 1), INDEX);
            DUE.is("cell beyond", x.cell(lane, 10, lane), LOST);
            DUE.is("is an index", x.fault(), 3);
            DUE.is("cell below", x.cell(lane, -1, lane), LOST);
            DUE.is("is an index", x.fault(), 3);
            DUE.is("cast before index", x.cell(lane, -1, (lane + 1) % 3), LOST);
            DUE.is("is a cast", x.fault(), 2);
            DUE.is("nothing", x.cell(3, -1, lane), LOST);
            DUE.is("is null", x.fault(), 1);
        }
        DUE.is("no lane", x.cell(0, 99, 3), LOST);
        DUE.is("is none", x.fault(), 0);
        DUE.is("null", x.put(3, -1, 0), NULL);
        DUE.is("no sheet", x.cell(4, 0, 0), LOST);
        DUE.is("is none", x.fault(), 0);
        DUE.is("put 4", x.put(4, -1, 0), UNKNOWN);
        DUE.is("put -1", x.put(-1, 0, 0), UNKNOWN);
    }

    private static void copy() {
        SugarLoop x = new SugarLoop();
        Calls.write(x, 0, 0, 1, 2, 3, 4, 5);
        Calls.write(x, 1, 0, 6, 7, 8);
        x.sheet(2, 1, 5);
        DUE.is("copy", x.copy(0, 1, 1, 0, 2), 2);
        DUE.is("first", x.cell(1, 0, 0), 2);
        DUE.is("second", x.cell(1, 1, 0), 3);
        DUE.is("third stays", x.cell(1, 2, 0), 8);
        DUE.is("onto itself, upwards", x.copy(0, 0, 0, 1, 4), 4);
        for (int i = 1; i < 5; i++) {
            DUE.is("as they were", x.cell(0, i, 0), i);
        }
        DUE.is("onto itself, downwards", x.copy(0, 2, 0, 0, 3), 3);
        for (int i = 0; i < 3; i++) {
            DUE.is("as they were", x.cell(0, i, 0), i + 2);
        }
        DUE.is("none, at both ends", x.copy(0, 5, 1, 3, 0), 0);
        DUE.is("no sheet", x.copy(4, 0, 3, 0, 0), UNKNOWN);
        DUE.is("no other", x.copy(3, 0, -1, 0, 0), UNKNOWN);
        DUE.is("nothing", x.copy(3, 0, 2, -1, 0), NULL);
        DUE.is("no other thing", x.copy(0, -1, 3, 0, 0), NULL);
        DUE.is("unlike lanes", x.copy(0, -1, 2, 0, -1), CAST);
        int[][] wrong = {{-1, 0, 0}, {0, -1, 0}, {0, 0, -1}, {6, 0, 0}, {0, 4, 0}, {3, 0, 3}, {0, 1, 3}, {0, 0, 4},
            {1, 1, Integer.MAX_VALUE}, {Integer.MAX_VALUE, 0, 1}};
        for (int[] w : wrong) {
            DUE.is("copy " + w[0] + " " + w[1] + " " + w[2], x.copy(0, w[0], 1, w[1], w[2]), INDEX);
        }
    }

    private static void tellPour() {
        SugarLoop x = Calls.with(THREE);
        DUE.is("guest", x.tell(0), 2);
        DUE.is("guest's trace", x.trace(), 1);
        DUE.is("duke", x.tell(1), 102);
        DUE.is("duke's trace", x.trace(), (1 * 31 + 2) * 31 + 1);
        Calls.furnish(x, THREE);
        DUE.is("child", x.tell(2), 110);
        int trace = 1;
        for (int body : new int[] {2, 1, 3, 2, 1, 1}) {
            trace = trace * 31 + body;
        }
        DUE.is("child's trace, wrapped", x.trace(), trace);
        int[] poured = {0, 1, 70};
        int[] body = {4, 4, 5};
        for (int t = 0; t < 3; t++) {
            DUE.is("pour " + t, x.pour(t), poured[t]);
            trace = trace * 31 + body[t];
            DUE.is("its trace", x.trace(), trace);
        }
        DUE.is("tell 3", x.tell(3), UNKNOWN);
        DUE.is("tell -1", x.tell(-1), UNKNOWN);
        DUE.is("pour 3", x.pour(3), UNKNOWN);
        DUE.is("pour -1", x.pour(-1), UNKNOWN);
        DUE.is("trace stays", x.trace(), trace);
    }

    private static void as() {
        SugarLoop x = Calls.with(THREE);
        for (int t = 0; t < 3; t++) {
            for (int kind = 0; kind < 3; kind++) {
                DUE.is("table " + t + " as " + kind, x.as(t, kind), kind <= t ? 1 : CAST);
                DUE.is("its fault", x.fault(), kind <= t ? 0 : 2);
            }
        }
        DUE.is("as 3", x.as(0, 3), OUTSIDE);
        DUE.is("as -1", x.as(0, -1), OUTSIDE);
        DUE.is("no table", x.as(3, 3), UNKNOWN);
        DUE.is("no table -1", x.as(-1, 0), UNKNOWN);
    }

    /** Calls that name faults tell that they came to none; others leave the latest one. */
    private static void faults() {
        SugarLoop x = Calls.with(THREE);
        for (int call = 0; call < 16; call++) {
            DUE.is("a size", x.sheet(0, 0, -1), SIZE);
            DUE.is("is told", x.fault(), 4);
            x.lose(0);
            x.lose(9);
            x.run(0, 0);
            x.many(9);
            x.ofTable(9, 9);
            x.odds(9, 9);
            x.tell(0);
            x.pour(0);
            x.go(-1);
            DUE.is("is still told", x.fault(), 4);
            afterFault(x, call);
            DUE.is("after call " + call, x.fault(), 0);
        }
        DUE.is("many -1", x.many(-1), OUTSIDE);
        DUE.is("many 5", x.many(5), OUTSIDE);
    }

    private static void afterFault(SugarLoop x, int call) {
        switch (call) {
            case 0: x.hall(9, 0, 0, 0); break;
            case 1: x.hall(0, 9, 0, 0); break;
            case 2: x.hall(3, 0, 0, 1); break;
            case 3: x.hall(3, 0, 0, 22); break;
            case 4: x.plan(9, 0, 0, 0, 0); break;
            case 5: x.plan(3, 0, 0, 1, 0); break;
            case 6: x.plan(3, 0, 0, 0, 0); break;
            case 7: x.sheet(9, 0, 0); break;
            case 8: x.sheet(0, 0, 0); break;
            case 9: x.put(9, 0, 0); break;
            case 10: x.put(3, 0, 'r'); break;
            case 11: x.cell(3, 0, 9); break;
            case 12: x.cell(3, 0, 0); break;
            case 13: x.copy(9, 0, 0, 0, 0); break;
            case 14: x.copy(3, 0, 3, 0, 0); break;
            default: x.as(9, 0); break;
        }
    }
}
