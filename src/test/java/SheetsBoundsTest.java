/** Boundary cases of the sentences on sheets and bodies, and of promises 23 to 33. */
public final class SheetsBoundsTest {
    private static final Sentences T = new Sentences("SheetsBoundsTest");
    private static final String KINDS = "r101;g2000;d3000;c4000;g9000;d9000;c9000;c0000";

    public static void main(String[] args) {
        nothingAtFirst();
        upTo60();
        zeroAtFirst();
        cutToLane();
        traceWraps();
        guestTells();
        dukeTells();
        childTells();
        lentBody();
        ownBody();
        newRow();
        sheetRefusals();
        lose();
        loseRefusals();
        put();
        putRefusals();
        cell();
        cellRefusals();
        copy();
        copySame();
        copyAsTheyWere();
        copyRefusals();
        copyIndex();
        tellRefusals();
        pourRefusals();
        as();
        asRefusals();
        trace();
        fault();
        faultOfEach();
        many();
        manyRefusals();
        T.end();
    }

    private static void nothingAtFirst() {
        T.of("SHEETS 0 .. 3 have nothing (at first)");
        for (int k = 0; k < 4; k++) {
            SugarLoop x = new SugarLoop();
            T.runs(x, "put " + k + " 0 0 = NULL", "fault = 1", "cell " + k + " 0 0 = LOST", "fault = 1",
                "lose " + k + " = 0", "sheet " + k + " 0 1 = 1", "put " + k + " 0 1 = 1", "lose " + k + " = 1",
                "cell " + k + " 0 0 = LOST", "fault = 1");
            for (int other = 0; other < 4; other++) {
                T.runs(x, "lose " + other + " = 0");
            }
        }
    }

    private static void upTo60() {
        T.of("or a row of 0 .. 60 numbers (0 at first) of a LANE");
        for (int lane = 0; lane < 3; lane++) {
            SugarLoop x = new SugarLoop();
            T.runs(x, "sheet 0 " + lane + " 0 = 1", "put 0 0 1 = INDEX", "cell 0 0 " + lane + " = INDEX", "fault = 3",
                "lose 0 = 1", "sheet 0 " + lane + " 1 = 1", "put 0 0 1 = 1", "put 0 1 1 = INDEX", "sheet 0 " + lane + " 60 = 1",
                "put 0 59 1 = 1", "put 0 60 1 = INDEX", "cell 0 59 " + lane + " = 1", "cell 0 60 " + lane + " = INDEX",
                "sheet 0 " + lane + " 61 = OUTSIDE", "cell 0 59 " + lane + " = 1");
            // all four may be full at once
            for (int k = 0; k < 4; k++) {
                T.runs(x, "sheet " + k + " " + lane + " 60 = 1", "put " + k + " 59 " + k + " = 1");
            }
            for (int k = 0; k < 4; k++) {
                T.runs(x, "cell " + k + " 59 " + lane + " = " + k);
            }
        }
    }

    private static void zeroAtFirst() {
        T.of("(0 at first) of a LANE: 0 bytes, 1 shorts, 2 ints");
        for (int lane = 0; lane < 3; lane++) {
            SugarLoop x = new SugarLoop();
            x.sheet(1, lane, 60);
            for (int i = 0; i < 60; i++) {
                T.runs(x, "cell 1 " + i + " " + lane + " = 0");
                x.put(1, i, 100 + i);
            }
            T.runs(x, "sheet 1 " + lane + " 0 = 1", "sheet 1 " + (lane + 1) % 3 + " 60 = 1");
            for (int i = 0; i < 60; i++) {
                T.runs(x, "cell 1 " + i + " " + (lane + 1) % 3 + " = 0");
                x.put(1, i, 100 + i);
            }
            T.runs(x, "lose 1 = 1", "sheet 1 " + lane + " 60 = 1");
            for (int i = 0; i < 60; i++) {
                T.runs(x, "cell 1 " + i + " " + lane + " = 0");
            }
        }
    }

    private static void cutToLane() {
        T.of("what comes to a cell of it is cut to its LANE (with its sign)");
        int[] put = {0, 1, -1, 127, 128, -128, -129, 255, 256, 257, 32767, 32768, -32768, -32769, 65535, 65536, 65537,
            Integer.MAX_VALUE, Integer.MIN_VALUE, 0x12345678, 0x1234fedc};
        int[] bytes = {0, 1, -1, 127, -128, -128, 127, -1, 0, 1, -1, 0, 0, -1, -1, 0, 1, -1, 0, 0x78, -36};
        int[] shorts = {0, 1, -1, 127, 128, -128, -129, 255, 256, 257, 32767, -32768, -32768, 32767, -1, 0, 1, -1, 0,
            0x5678, -292};
        int[][] cut = {bytes, shorts, put};
        for (int lane = 0; lane < 3; lane++) {
            SugarLoop x = new SugarLoop();
            x.sheet(3, lane, put.length);
            for (int i = 0; i < put.length; i++) {
                T.runs(x, "put 3 " + i + " " + put[i] + " = 1", "cell 3 " + i + " " + lane + " = " + cut[lane][i]);
            }
        }
    }

    private static void traceWraps() {
        T.of("TRACE (an int that wraps, 0 at first, becomes 31 times it and the number) as they begin");
        SugarLoop x = Calls.with(KINDS);
        long trace = 0;
        T.runs(x, "trace = 0");
        boolean below = false;
        for (int call = 0; call < 100; call++) {
            x.pour(call % 3);
            trace = (int) (31 * trace + (call % 3 == 2 ? 5 : 4));
            below |= trace < 0;
            T.runs(x, "trace = " + trace);
        }
        T.holds("it wrapped", below);
        x = Calls.with(KINDS);
        // 4, 31 * 4 + 4 and so on: the seventh is beyond an int
        T.runs(x, "pour 0 = 0", "trace = 4", "pour 0 = 0", "trace = 128", "pour 0 = 0", "trace = 3972", "pour 0 = 0",
            "trace = 123136", "pour 0 = 0", "trace = 3817220", "pour 0 = 0", "trace = 118333824", "pour 0 = 0",
            "trace = -626618748", "pour 0 = 0", "trace = 2049655296");
    }

    private static void guestTells() {
        T.of("GUEST (1): RANK");
        T.inHall(KINDS, "tell 0 = 2", "trace = 1", "tell 3 = 9", "trace = 32", "bow 0 0 = 2", "tell 0 = 0", "trace = 993");
    }

    private static void dukeTells() {
        T.of("DUKE (2): what GUEST's gives, and 100");
        T.inHall(KINDS, "tell 1 = 103", "trace = 63", "bow 1 0 = 3", "tell 1 = 100");
        T.inHall(KINDS, "tell 4 = 109", "trace = 63");
    }

    private static void childTells() {
        T.of("CHILD (3): what DUKE's gives, and what GUEST's gives (DUKE's left out)");
        // 3, 2, 1, 1: ((3 * 31 + 2) * 31 + 1) * 31 + 1
        T.inHall(KINDS, "tell 2 = 108", "trace = 91327");
        T.inHall(KINDS, "tell 5 = 118", "trace = 91327", "bow 5 0 = 9", "tell 5 = 100");
        T.inHall(KINDS, "tell 6 = 100", "trace = 91327", "bow 6 9 = 0", "tell 6 = 118");
    }

    private static void lentBody() {
        T.of("POURED by a lent body (4): the number of its place");
        T.inHall(KINDS, "pour 0 = 0", "trace = 4", "pour 1 = 1", "trace = 128", "pour 4 = 4", "trace = 3972");
        T.inHall("r101;c0000;g0000;g0000;g0000;g0000;g0000;g0000;d0000", "pour 7 = 7", "trace = 4", "pour 6 = 6");
    }

    private static void ownBody() {
        T.of("CHILDREN have their own (5): 70");
        T.inHall(KINDS, "pour 2 = 70", "trace = 5", "pour 6 = 70", "trace = 160", "pour 0 = 0", "trace = 4964");
    }

    private static void newRow() {
        T.of("A SHEET gets a new row: 1");
        T.runs(States.rows(), "sheet 0 0 5 = 1", "fault = 0", "cell 0 4 0 = 0", "sheet 0 1 2 = 1", "cell 0 0 0 = CAST",
            "cell 0 1 1 = 0", "cell 0 2 1 = INDEX", "fault = 3", "sheet 3 2 60 = 1", "cell 3 59 2 = 0", "sheet 1 1 0 = 1",
            "cell 1 0 1 = INDEX", "fault = 3", "lose 1 = 1", "cell 2 1 2 = 300");
    }

    private static void sheetRefusals() {
        T.of("A SHEET gets a new row: 1. UNKNOWN; OUTSIDE: lane, n above 60; SIZE.");
        T.refuses(States::rows, "sheet 4 3 61 = UNKNOWN", "sheet -1 0 -1 = UNKNOWN", "sheet 0 3 0 = OUTSIDE",
            "sheet 0 -1 0 = OUTSIDE", "sheet 0 least 0 = OUTSIDE", "sheet 0 most 0 = OUTSIDE", "sheet 0 3 -1 = OUTSIDE",
            "sheet 0 0 61 = OUTSIDE", "sheet 0 0 most = OUTSIDE", "sheet 3 2 61 = OUTSIDE", "sheet 0 0 -1 = SIZE",
            "sheet 1 2 -1 = SIZE", "sheet 2 2 least = SIZE", "sheet 3 0 -60 = SIZE");
    }

    private static void lose() {
        T.of("A SHEET has nothing: 1; 0: it had nothing");
        T.runs(States.rows(), "lose 0 = 1", "lose 0 = 0", "put 0 0 1 = NULL", "lose 3 = 0", "cell 1 0 1 = 7",
            "sheet 3 0 0 = 1", "lose 3 = 1", "lose 3 = 0", "sheet 0 0 5 = 1", "cell 0 4 0 = 0");
        SugarLoop x = States.rows();
        T.runs(x, "lose 0 = 1", "fault = 4", "lose 0 = 0", "fault = 4", "hall 0 0 0 0 = NULL", "lose 2 = 1", "fault = 1");
        // the hall stays behind its text
        x = Calls.with(States.TEXT);
        T.runs(x, "lose 3 = 1", "many 0 = 3", "go 0 = 9");
    }

    private static void loseRefusals() {
        T.of("0: it had nothing. UNKNOWN.");
        T.refuses(States::rows, "lose -1 = UNKNOWN", "lose 4 = UNKNOWN", "lose least = UNKNOWN", "lose most = UNKNOWN",
            "lose 3 = 0");
    }

    private static void put() {
        T.of("Cell i of a SHEET becomes v: 1");
        T.runs(States.rows(), "put 0 0 9 = 1", "fault = 0", "cell 0 0 0 = 9", "put 0 4 -9 = 1", "cell 0 4 0 = -9",
            "cell 0 1 0 = 1", "cell 0 3 0 = 4", "put 2 2 most = 1", "cell 2 2 2 = 2147483647", "put 2 2 least = 1",
            "cell 2 2 2 = -2147483648", "cell 2 1 2 = 300");
    }

    private static void putRefusals() {
        T.of("Cell i of a SHEET becomes v: 1. UNKNOWN; NULL; INDEX.");
        T.refuses(States::rows, "put -1 0 0 = UNKNOWN", "put 4 0 0 = UNKNOWN", "put 4 -1 0 = UNKNOWN", "put 3 0 0 = NULL",
            "put 3 -1 0 = NULL", "put 0 -1 9 = INDEX", "put 0 5 9 = INDEX", "put 1 4 9 = INDEX", "put 2 3 9 = INDEX",
            "put 0 60 9 = INDEX", "put 0 least 9 = INDEX", "put 0 most 9 = INDEX");
    }

    private static void cell() {
        T.of("Cell i of what a SHEET has, taken as a row of a LANE");
        T.runs(States.rows(), "cell 0 0 0 = 0", "fault = 0", "cell 0 4 0 = 7", "cell 1 2 1 = -1", "cell 1 3 1 = 0",
            "cell 2 2 2 = -5", "put 2 0 least = 1", "cell 2 0 2 = -2147483648", "fault = 0");
    }

    private static void cellRefusals() {
        T.of("LOST: UNKNOWN, OUTSIDE: lane; FAULTS CAST (nothing is no CAST), NULL, INDEX");
        T.refuses(States::rows, "cell -1 0 0 = LOST", "cell 4 9 3 = LOST", "cell 0 0 -1 = LOST", "cell 0 0 3 = LOST",
            "cell 3 0 3 = LOST", "cell 0 0 least = LOST", "cell 0 0 most = LOST", "cell 0 0 1 = CAST", "cell 0 -1 2 = CAST",
            "cell 0 5 1 = CAST", "cell 1 9 0 = CAST", "cell 2 0 1 = CAST", "cell 3 0 0 = NULL", "cell 3 -1 1 = NULL",
            "cell 3 0 2 = NULL", "cell 0 -1 0 = INDEX", "cell 0 5 0 = INDEX", "cell 1 4 1 = INDEX", "cell 2 3 2 = INDEX",
            "cell 0 least 0 = INDEX", "cell 0 most 0 = INDEX");
    }

    private static void copy() {
        T.of("n cells of a SHEET from i on go to another one");
        SugarLoop x = States.rows();
        T.runs(x, "sheet 3 0 6 = 1", "copy 0 0 3 1 5 = 5", "fault = 0", "cell 3 0 0 = 0", "cell 3 1 0 = 0",
            "cell 3 2 0 = 1", "cell 3 5 0 = 7", "cell 0 0 0 = 0", "cell 0 4 0 = 7", "copy 0 4 3 0 1 = 1", "cell 3 0 0 = 7",
            "cell 3 1 0 = 0", "copy 3 5 0 0 1 = 1", "cell 0 0 0 = 7", "copy 0 5 3 6 0 = 0", "fault = 0");
        x = new SugarLoop();
        T.runs(x, "sheet 0 2 60 = 1", "sheet 1 2 60 = 1", "put 0 0 least = 1", "put 0 59 most = 1", "copy 0 0 1 0 60 = 60",
            "cell 1 0 2 = -2147483648", "cell 1 59 2 = 2147483647", "copy 0 60 1 60 0 = 0", "copy 0 0 1 0 61 = INDEX");
    }

    private static void copySame() {
        T.of("(perhaps the same)");
        for (int k = 0; k < 3; k++) {
            T.runs(States.rows(), "copy " + k + " 1 " + k + " 0 2 = 2", "copy " + k + " 0 " + k + " 0 3 = 3",
                "copy " + k + " 0 " + k + " 3 0 = 0");
        }
        T.refuses(States::rows, "copy 0 0 0 0 5 = 5", "copy 0 2 0 2 3 = 3", "copy 0 5 0 0 0 = 0", "copy 3 0 3 0 0 = NULL",
            "copy 0 0 0 1 5 = INDEX", "copy 0 1 0 0 5 = INDEX");
    }

    private static void copyAsTheyWere() {
        T.of("from j on, as they were: n");
        T.runs(States.rows(), "copy 0 0 0 1 4 = 4", "cell 0 0 0 = 0", "cell 0 1 0 = 0", "cell 0 2 0 = 1", "cell 0 3 0 = 2",
            "cell 0 4 0 = 4");
        T.runs(States.rows(), "copy 0 1 0 0 4 = 4", "cell 0 0 0 = 1", "cell 0 1 0 = 2", "cell 0 2 0 = 4", "cell 0 3 0 = 7",
            "cell 0 4 0 = 7");
    }

    private static void copyRefusals() {
        T.of("UNKNOWN; FAULTS NULL (the first, the other), CAST (unlike LANES), INDEX: i, j, n below 0 or beyond");
        T.refuses(States::rows, "copy -1 0 0 0 0 = UNKNOWN", "copy 4 0 0 0 0 = UNKNOWN", "copy 0 0 -1 0 0 = UNKNOWN",
            "copy 0 0 4 0 0 = UNKNOWN", "copy 3 0 4 0 0 = UNKNOWN", "copy 4 -1 3 -1 -1 = UNKNOWN",
            "copy 3 0 0 0 0 = NULL", "copy 0 0 3 0 0 = NULL", "copy 3 -1 1 9 -1 = NULL", "copy 1 9 3 -1 -1 = NULL",
            "copy 0 0 1 0 0 = CAST", "copy 1 0 0 0 0 = CAST", "copy 1 -1 2 0 1 = CAST", "copy 2 0 0 0 -1 = CAST",
            "copy 2 0 1 9 1 = CAST");
    }

    private static void copyIndex() {
        T.of("INDEX: i, j, n below 0 or beyond");
        T.refuses(() -> {
            SugarLoop x = States.rows();
            Calls.write(x, 3, 0, 7, 8, 9);
            x.sheet(0, 0, -1);
            return x;
        }, "copy 0 -1 3 0 1 = INDEX", "copy 0 0 3 -1 1 = INDEX", "copy 0 0 3 0 -1 = INDEX", "copy 0 5 3 0 1 = INDEX",
            "copy 0 0 3 3 1 = INDEX", "copy 0 0 3 0 4 = INDEX", "copy 0 3 3 0 3 = INDEX", "copy 0 0 3 1 3 = INDEX",
            "copy 0 6 3 0 0 = INDEX", "copy 0 0 3 4 0 = INDEX", "copy 0 -1 3 0 0 = INDEX", "copy 0 0 3 -1 0 = INDEX",
            "copy 0 0 3 0 least = INDEX", "copy 0 0 3 0 most = INDEX", "copy 0 1 3 1 most = INDEX",
            "copy 0 most 3 0 1 = INDEX", "copy 0 0 3 most 1 = INDEX", "copy 0 most 3 most most = INDEX",
            "copy 0 least 3 0 0 = INDEX", "copy 0 0 3 least 0 = INDEX", "copy 0 5 3 3 0 = 0", "copy 3 0 0 0 5 = INDEX");
    }

    private static void tellRefusals() {
        T.of("TELLING of a TABLE. UNKNOWN.");
        T.refuses(States::halfway, "tell -1 = UNKNOWN", "tell 3 = UNKNOWN", "tell 8 = UNKNOWN", "tell least = UNKNOWN",
            "tell most = UNKNOWN");
        T.refuses(States::rows, "tell 0 = UNKNOWN");
        T.runs(States.halfway(), "tell 2 = 110", "tell 0 = 2", "fault = 4");
    }

    private static void pourRefusals() {
        T.of("How it is POURED. UNKNOWN.");
        T.refuses(States::halfway, "pour -1 = UNKNOWN", "pour 3 = UNKNOWN", "pour 8 = UNKNOWN", "pour least = UNKNOWN",
            "pour most = UNKNOWN");
        T.refuses(States::rows, "pour 0 = UNKNOWN");
        T.runs(States.halfway(), "pour 2 = 70", "pour 1 = 1", "fault = 4");
    }

    private static void as() {
        T.of("A TABLE, taken as one of a kind: 1");
        for (int t = 0; t < 7; t++) {
            int kind = "gdcgdcc".charAt(t) == 'g' ? 0 : "gdcgdcc".charAt(t) == 'd' ? 1 : 2;
            for (int as = 0; as < 3; as++) {
                T.inHall(KINDS, "as " + t + " " + as + " = " + (as <= kind ? "1" : "CAST"), "fault = " + (as <= kind ? 0 : 2));
            }
        }
    }

    private static void asRefusals() {
        T.of("A TABLE, taken as one of a kind: 1. UNKNOWN; OUTSIDE; CAST: it is none.");
        T.refuses(States::halfway, "as -1 0 = UNKNOWN", "as 3 0 = UNKNOWN", "as 3 3 = UNKNOWN", "as least 0 = UNKNOWN",
            "as most 0 = UNKNOWN", "as 0 -1 = OUTSIDE", "as 0 3 = OUTSIDE", "as 2 3 = OUTSIDE", "as 0 least = OUTSIDE",
            "as 0 most = OUTSIDE", "as 0 1 = CAST", "as 0 2 = CAST", "as 1 2 = CAST", "as 0 0 = 1", "as 2 2 = 1");
        T.refuses(States::rows, "as 0 0 = UNKNOWN", "as 0 3 = UNKNOWN");
    }

    private static void trace() {
        T.of("`int trace()`: TRACE");
        T.runs(new SugarLoop(), "trace = 0", "tell 0 = UNKNOWN", "pour 0 = UNKNOWN", "trace = 0");
        T.inHall(KINDS, "tell 0 = 2", "trace = 1", "trace = 1", "tell 7 = UNKNOWN", "pour 7 = UNKNOWN", "trace = 1",
            "as 0 0 = 1", "ofTable 0 1 = 2", "go 0 = 0", "clear = 0", "trace = 1");
    }

    private static void fault() {
        T.of("The FAULT of the latest call that names one: 0: it came to none, or was refused (0 ahead of any)");
        SugarLoop x = new SugarLoop();
        T.runs(x, "fault = 0", "sweet = STATE", "ofTable 0 0 = UNKNOWN", "lose 9 = UNKNOWN", "fault = 0");
        String[] others = {"ofTable 0 0 = 0", "ofTable 3 0 = UNKNOWN", "bow 0 2 = 2", "bow 0 10 = OUTSIDE",
            "heat 0 15 = 15", "heat 3 0 = UNKNOWN", "load 12 = 12", "load 37 = OUTSIDE", "sweet = 0", "go 0 = 9",
            "go 8 = OUTSIDE", "clear = 9", "run 0 0 = 3", "run 0 4 = OUTSIDE", "lump 0 0 0 = 0", "lump 0 36 0 = OUTSIDE",
            "best 0 = 0", "best 2 = OUTSIDE", "enough 0 = 5", "enough 3 = UNKNOWN", "tea 1 = 2", "tea 2 = OUTSIDE",
            "swap 0 = NONE", "swap 3 = OUTSIDE", "reading 0 0 3 = 0", "reading 0 0 37 = OUTSIDE", "back 1 = 0",
            "back 1 = OUTSIDE", "ranks 0 = 1023", "ranks 3 = UNKNOWN", "kinds 0 = 7", "kinds 3 = UNKNOWN",
            "wants 0 = 1023", "wants 3 = UNKNOWN", "odds 0 1 = 2", "odds 0 2 = LOST", "lose 3 = 0", "lose 4 = UNKNOWN",
            "lose 2 = 1", "tell 0 = 2", "tell 3 = UNKNOWN", "pour 0 = 0", "pour 3 = UNKNOWN", "trace = 35", "many 0 = 3",
            "many 5 = OUTSIDE"};
        x = States.begun();
        for (String other : others) {
            T.runs(x, other, "fault = 4");
        }
    }

    private static void faultOfEach() {
        T.of("0: it came to none, or was refused");
        String[] calls = {"hall 0 0 0 0 = -100", "hall 0 0 0 5 = -100", "hall 4 0 0 0 = UNKNOWN", "hall 0 3 0 0 = OUTSIDE",
            "plan 0 0 0 0 0 = 7", "plan 4 0 0 0 0 = UNKNOWN", "plan 0 0 0 5 0 = OUTSIDE", "plan 1 1 1 1 0 = OUTSIDE",
            "plan 0 0 0 3 0 = STATE", "sheet 0 0 5 = 1", "sheet 4 0 0 = UNKNOWN", "sheet 0 0 61 = OUTSIDE",
            "put 0 0 1 = 1", "put 4 0 0 = UNKNOWN", "cell 0 0 0 = 0", "cell 4 0 0 = LOST", "cell 0 0 3 = LOST",
            "copy 0 0 0 1 1 = 1", "copy 0 0 0 0 0 = 0", "copy 4 0 0 0 0 = UNKNOWN", "as 0 0 = 1", "as 3 0 = UNKNOWN",
            "as 0 3 = OUTSIDE"};
        for (String call : calls) {
            T.runs(States.halfway(), "fault = 4", call, "fault = 0", "fault = 0");
        }
        SugarLoop x = States.rows();
        T.runs(x, "plan 0 0 0 0 0 = STATE", "fault = 0");
        x = Calls.with(States.TEXT);
        T.runs(x, "put 3 22 0 = INDEX", "fault = 3", "hall 3 0 0 22 = 3", "fault = 0");
    }

    private static void many() {
        T.of("How many: 0 TABLES, 1 LUMPS on the train, 2 ROUNDS in all, 3 ROUNDS that have gone, 4 READINGS "
            + "(0 all without a HALL)");
        T.runs(States.rows(), "many 0 = 0", "many 1 = 0", "many 2 = 0", "many 3 = 0", "many 4 = 0", "load 9 = STATE",
            "many 1 = 0");
        T.runs(States.halfway(), "many 0 = 3", "many 1 = 7", "many 2 = 3", "many 3 = 1", "many 4 = 2");
        T.runs(States.over(), "many 1 = 3", "many 2 = 3", "many 3 = 3", "many 4 = 0");
        T.runs(States.full(), "many 4 = 8", "back 8 = 0", "many 4 = 0");
        T.inHall(States.EIGHT, "many 0 = 8", "many 1 = 36", "many 2 = 4");
        T.inHall("r001;g0000;g0000", "many 0 = 2", "many 1 = 0", "many 2 = 1", "many 3 = 0", "go 0 = 0", "many 3 = 1");
    }

    private static void manyRefusals() {
        T.of("(0 all without a HALL). OUTSIDE.");
        T.refuses(States::rows, "many -1 = OUTSIDE", "many 5 = OUTSIDE", "many least = OUTSIDE", "many most = OUTSIDE");
        T.refuses(States::halfway, "many -1 = OUTSIDE", "many 5 = OUTSIDE", "many 4 = 2");
    }
}
