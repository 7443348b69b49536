import java.util.List;
import java.util.function.Supplier;

/** Boundary cases of the sentences on texts and kinds, and of promises 1 to 6. */
public final class HallBoundsTest {
    private static final Sentences T = new Sentences("HallBoundsTest");
    private static final String EIGHT = States.EIGHT;
    private static final List<Supplier<SugarLoop>> HALLS =
        List.of(States::begun, States::halfway, States::over, States::full);

    public static void main(String[] args) {
        lumps();
        rounds();
        howManyTables();
        tableCodes();
        warm();
        firstFault();
        firstFaultOfNumbers();
        ninthTable();
        endsTooSoon();
        codes();
        kinds();
        allAnew();
        butSheetsAndTrace();
        nothingElseNew();
        leaves();
        newObject();
        newSheets();
        partOfARow();
        laneOfARow();
        hallRefusals();
        hallFaults();
        lessFirstFault();
        ofTable();
        ofTableRefusals();
        bow();
        bowRefusals();
        heat();
        heatRefusals();
        load();
        loadRefusals();
        T.end();
    }

    private static String two(int v) {
        return v < 10 ? "0" + v : "" + v;
    }

    /** A text is taken by a new object, or its first fault is told and there is no hall. */
    private static void text(String text, int due) {
        SugarLoop x = new SugarLoop();
        T.is(text, Calls.furnish(x, text), due);
        T.is("fault() behind " + text, x.fault(), 0);
        T.is("TABLES behind " + text, x.many(0), Math.max(due, 0));
    }

    private static void lumps() {
        T.of("r, two digits 00 .. 36 (LUMPS)");
        for (int v = 0; v < 100; v++) {
            String text = "r" + two(v) + "1;g0000;g0000";
            text(text, v <= 36 ? 2 : v <= 39 ? -102 : -101);
            T.is("LUMPS of " + text, Calls.with(text).many(1), v <= 36 ? v : 0);
        }
    }

    private static void rounds() {
        T.of("a digit 1 .. 4 (ROUNDS)");
        for (int v = 0; v < 10; v++) {
            String text = "r10" + v + ";g0000;g0000";
            text(text, v >= 1 && v <= 4 ? 2 : -103);
            T.is("ROUNDS of " + text, Calls.with(text).many(2), v >= 1 && v <= 4 ? v : 0);
        }
    }

    private static void howManyTables() {
        T.of("then 2 to 8 TABLES, numbered from 0 on");
        StringBuilder text = new StringBuilder("r101");
        text(text.toString(), -104);
        for (int tables = 1; tables <= 9; tables++) {
            text.append(";g").append(tables % 10).append("000");
            text(text.toString(), tables == 1 ? -110 : tables == 9 ? -152 : tables);
        }
        SugarLoop x = Calls.with(text.substring(0, 52));
        for (int t = 0; t < 8; t++) {
            T.is("RANK of " + t, x.ofTable(t, 1), t + 1);
        }
    }

    private static void tableCodes() {
        T.of("each: ; and a letter, a digit 0 .. 9 (RANK), a digit 0 .. 9 (WANT)");
        for (int v = 0; v < 10; v++) {
            T.inHall("r101;g" + v + "000;d0" + v + "00", "ofTable 0 1 = " + v, "ofTable 0 2 = 0", "ofTable 1 1 = 0",
                "ofTable 1 2 = " + v);
        }
        text("r101;g/000;g0000", -106);
        text("r101;g:000;g0000", -106);
        text("r101;g0/00;g0000", -107);
        text("r101;g0:00;g0000", -107);
    }

    private static void warm() {
        T.of("two digits 00 .. 39 (WARM: the last MINUTE)");
        for (int v = 0; v < 100; v++) {
            String text = "r101;g0000;g00" + two(v);
            text(text, v <= 39 ? 2 : -114);
            T.is("WARM of " + text, Calls.with(text).ofTable(1, 3), v <= 39 ? v : -1);
        }
    }

    /** Each code at each place of a text of eight tables. */
    private static void firstFault() {
        T.of("FIRST FAULT: the place (from 0 on) of the first code with which no TEXT goes on");
        for (int place = 0; place < EIGHT.length(); place++) {
            SugarLoop x = new SugarLoop();
            Calls.write(x, 3, 2, EIGHT);
            for (int code = 30; code < 125; code++) {
                x.put(3, place, code);
                T.is("code " + code + " at " + place, x.hall(3, 2, 0, 52), goesOn(place, code) ? 8 : -100 - place);
            }
            for (int code : new int[] {-1, 0, 256 + EIGHT.charAt(place), 65536 + EIGHT.charAt(place),
                EIGHT.charAt(place) - 256, Integer.MIN_VALUE, Integer.MAX_VALUE}) {
                x.put(3, place, code);
                T.is("code " + code + " at " + place, x.hall(3, 2, 0, 52), -100 - place);
            }
        }
        text("x991;G0000", -100);
        text("r10 ;G0000", -103);
        text("r101;G/000;", -105);
    }

    private static boolean goesOn(int place, int code) {
        String[] head = {"r", "0123", "0123456", "1234"};
        String[] table = {";", "gdc", "0123456789", "0123456789", "0123", "0123456789"};
        String all = place < 4 ? head[place] : table[(place - 4) % 6];
        return all.indexOf((char) code) >= 0;
    }

    private static void firstFaultOfNumbers() {
        T.of("(of 00 .. 36 and 00 .. 39 the first digit by which no such number begins, "
            + "or the second one by which it is none; the ; of a ninth TABLE)");
        text("r4", -101);
        text("r401;g0000;g0000", -101);
        text("r371;g0000;g0000", -102);
        text("r37", -102);
        text("r3:1;g0000;g0000", -102);
        text("r2:1;g0000;g0000", -102);
        text("r1/1;g0000;g0000", -102);
        text("r101;g004", -108);
        text("r101;g0040;g0000", -108);
        text("r101;g003:;g0000", -109);
        text("r101;g003/;g0000", -109);
        text("r101;g000x;g0000", -109);
    }

    private static void ninthTable() {
        T.of("the ; of a ninth TABLE");
        text(EIGHT, 8);
        text(EIGHT + ";", -152);
        text(EIGHT + ";g0000", -152);
        text(EIGHT + "x", -152);
        text(EIGHT + ";g0000;x", -152);
        text(EIGHT.substring(0, 46) + ";", -147);
    }

    private static void endsTooSoon() {
        T.of("how many codes there are, if it just ends too soon");
        for (int n = 0; n <= EIGHT.length(); n++) {
            text(EIGHT.substring(0, n), n >= 16 && (n - 4) % 6 == 0 ? (n - 4) / 6 : -100 - n);
        }
    }

    private static void codes() {
        T.of("(Codes: r 114, g 103, d 100, c 99, ; 59, digits 48 .. 57.)");
        SugarLoop x = new SugarLoop();
        Calls.write(x, 0, 2, 114, 51, 54, 52, 59, 103, 48, 57, 51, 57, 59, 100, 49, 56, 50, 48, 59, 99, 57, 48, 48, 55);
        T.runs(x, "hall 0 2 0 22 = 3", "many 1 = 36", "many 2 = 4", "ofTable 0 1 = 0", "ofTable 0 2 = 9",
            "ofTable 0 3 = 39", "ofTable 1 1 = 1", "ofTable 1 2 = 8", "ofTable 1 3 = 20", "ofTable 2 1 = 9",
            "ofTable 2 2 = 0", "ofTable 2 3 = 7");
    }

    private static void kinds() {
        T.of("Kinds: 0 GUEST (g); 1 DUKE (d), a GUEST; 2 CHILD (c), a DUKE");
        T.inHall("r101;g0000;d0000;c0000", "ofTable 0 0 = 0", "ofTable 1 0 = 1", "ofTable 2 0 = 2", "as 0 0 = 1",
            "as 0 1 = CAST", "as 0 2 = CAST", "as 1 0 = 1", "as 1 1 = 1", "as 1 2 = CAST", "as 2 0 = 1", "as 2 1 = 1",
            "as 2 2 = 1");
        for (int code = 0; code < 256; code++) {
            boolean letter = code == 'g' || code == 'd' || code == 'c';
            text("r101;g0000;" + (char) code + "0000", letter ? 2 : -111);
        }
    }

    private static void allAnew() {
        T.of("A TEXT that is taken makes all anew, but for SHEETS and TRACE: no ROUND has gone, nobody HAS anything, "
            + "no READINGS");
        for (Supplier<SugarLoop> state : HALLS) {
            SugarLoop x = state.get();
            x.bow(0, 9);
            x.heat(1, 0);
            x.load(36);
            Calls.write(x, 3, 0, States.TEXT);
            T.runs(x, "hall 3 0 0 22 = 3", "many 0 = 3", "many 1 = 12", "many 2 = 3", "many 3 = 0", "many 4 = 0",
                "ofTable 0 1 = 2", "ofTable 0 5 = 0", "ofTable 1 3 = 15", "ofTable 1 5 = 0", "ofTable 2 5 = 0",
                "sweet = 0", "ranks 0 = 1023", "reading 0 0 0 = 0");
        }
        SugarLoop x = Calls.with(EIGHT);
        x.go(0);
        Calls.furnish(x, "r012;c1200;d3439");
        T.runs(x, "many 0 = 2", "ofTable 2 0 = UNKNOWN", "go 4 = OUTSIDE", "ofTable 0 0 = 2", "ofTable 1 0 = 1");
        Calls.furnish(x, EIGHT);
        T.runs(x, "many 0 = 8", "ofTable 7 5 = 0", "ofTable 0 5 = 0", "ofTable 0 0 = 0", "go 255 = 0");
    }

    private static void butSheetsAndTrace() {
        T.of("but for SHEETS and TRACE");
        SugarLoop x = States.halfway();
        int trace = x.trace();
        T.holds("a trace", trace != 0);
        Calls.furnish(x, EIGHT);
        T.is("trace stays", x.trace(), trace);
        T.runs(x, "cell 0 4 0 = 7", "cell 0 5 0 = INDEX", "cell 1 1 1 = 8", "cell 1 2 1 = -1", "cell 2 1 2 = 300",
            "cell 3 0 0 = 114", "cell 3 51 0 = 57");
    }

    private static void nothingElseNew() {
        T.of("A HALL by a TEXT");
        for (Supplier<SugarLoop> state : HALLS) {
            Supplier<SugarLoop> written = () -> {
                SugarLoop x = state.get();
                Calls.write(x, 3, 0, "r364;g0939;g183x");
                x.sheet(2, 2, -1);
                return x;
            };
            T.refuses(written, "hall 3 0 0 16 = -115", "hall 3 0 0 15 = -115", "hall 3 0 0 10 = -110",
                "hall 3 0 0 0 = -100", "hall 3 0 16 0 = -100", "hall 3 0 4 12 = -100");
        }
    }

    private static void leaves() {
        T.of("how many lumps a TABLE leaves on the train at least: a GUEST RANK; a DUKE 1 more; "
            + "a CHILD half of what a DUKE does");
        SugarLoop x = Calls.with("r361;g0939;d0939;c0939");
        for (int rank = 0; rank <= 9; rank++) {
            for (int t = 0; t < 3; t++) {
                x.bow(t, rank);
                T.is("RANK " + rank + " of " + t, x.ofTable(t, 4), t == 0 ? rank : t == 1 ? rank + 1 : (rank + 1) / 2);
            }
        }
        // at the ninth lump and the tenth the politest duke is not yet served
        T.inHall("r091;d9939;d9939", "run 0 10 = 0", "load 10 = 9", "run 0 10 = 0", "load 11 = 10", "run 0 10 = 1",
            "run 0 11 = 0", "load 0 = 11", "run 0 10 = 0", "run 0 0 = 0");
    }

    private static void newObject() {
        T.of("No HALL (no TABLES)");
        for (int what = 0; what < 5; what++) {
            T.is("many", new SugarLoop().many(what), 0);
        }
        T.runs(new SugarLoop(), "fault = 0", "trace = 0", "sweet = STATE", "load 0 = STATE", "go 0 = STATE",
            "clear = STATE", "run 0 0 = STATE", "lump 0 0 0 = STATE", "best 0 = STATE", "tea 0 = STATE",
            "swap 0 = STATE", "plan 0 0 0 0 0 = STATE", "ofTable 0 0 = UNKNOWN", "back 0 = 0", "back 1 = OUTSIDE",
            "fault = 0", "trace = 0");
    }

    private static void newSheets() {
        T.of("SHEETS have nothing");
        for (int k = 0; k < 4; k++) {
            T.refuses(States::empty, "put " + k + " 0 0 = NULL", "cell " + k + " 0 0 = NULL", "cell " + k + " 0 2 = NULL",
                "hall " + k + " 0 0 0 = NULL", "lose " + k + " = 0", "copy " + k + " 0 " + k + " 0 0 = NULL");
        }
    }

    private static void partOfARow() {
        T.of("A HALL by a TEXT of n cells of a SHEET from i on");
        SugarLoop x = new SugarLoop();
        Calls.write(x, 0, 0, "r0" + EIGHT + "r0");
        T.runs(x, "hall 0 0 2 52 = 8", "hall 0 0 2 16 = 2", "hall 0 0 2 17 = -117", "hall 0 0 2 53 = -152",
            "hall 0 0 1 52 = -100", "hall 0 0 3 52 = -100", "hall 0 0 0 56 = -102", "hall 0 0 54 2 = -102",
            "hall 0 0 55 1 = -100", "hall 0 0 56 0 = -100", "hall 0 0 56 1 = INDEX", "hall 0 0 55 2 = INDEX");
        x = new SugarLoop();
        Calls.write(x, 3, 1, "12345678" + EIGHT);
        T.runs(x, "hall 3 1 8 52 = 8", "hall 3 1 8 53 = INDEX", "hall 3 1 0 60 = -100", "hall 3 1 0 61 = INDEX",
            "hall 3 1 60 0 = -100", "hall 3 1 61 0 = INDEX");
    }

    private static void laneOfARow() {
        T.of("taken as a row of a LANE: how many TABLES");
        for (int lane = 0; lane < 3; lane++) {
            for (int k = 0; k < 4; k++) {
                SugarLoop x = new SugarLoop();
                Calls.write(x, k, lane, States.TEXT);
                for (int as = 0; as < 3; as++) {
                    T.runs(x, "hall " + k + " " + as + " 0 22 = " + (as == lane ? "3" : "CAST"));
                }
            }
        }
        // 'r' is what is left of it in a row of bytes, and of shorts, alone
        for (int lane = 0; lane < 3; lane++) {
            SugarLoop x = new SugarLoop();
            Calls.write(x, 0, lane, 'r' + 65536, '0', '8');
            T.runs(x, "hall 0 " + lane + " 0 3 = " + (lane == 2 ? "-100" : "-103"));
            x.put(0, 0, 'r' + 256);
            T.runs(x, "hall 0 " + lane + " 0 3 = " + (lane == 0 ? "-103" : "-100"));
        }
    }

    private static void hallRefusals() {
        T.of("UNKNOWN; OUTSIDE: lane; CAST (nothing is no CAST); NULL; SIZE: n below 0; INDEX; -100 less it.");
        for (Supplier<SugarLoop> state : List.<Supplier<SugarLoop>>of(States::rows, States::halfway)) {
            T.refuses(state, "hall 4 3 -1 -1 = UNKNOWN", "hall -1 3 -1 -1 = UNKNOWN", "hall 0 3 -1 -1 = OUTSIDE",
                "hall 0 -1 0 0 = OUTSIDE", "hall 3 3 0 0 = OUTSIDE", "hall 3 least 0 0 = OUTSIDE",
                "hall 3 most 0 0 = OUTSIDE", "hall 0 1 -1 -1 = CAST", "hall 0 2 0 0 = CAST", "hall 1 0 5 0 = CAST",
                "hall 2 1 0 3 = CAST", "hall 3 0 -1 -1 = NULL", "hall 3 1 0 0 = NULL", "hall 3 2 0 0 = NULL",
                "hall 2 2 4 -1 = SIZE", "hall 2 2 -1 least = SIZE", "hall 2 2 -1 0 = INDEX", "hall 2 2 0 4 = INDEX",
                "hall 2 2 0 3 = -100", "hall 2 2 3 0 = -100");
        }
    }

    private static void hallFaults() {
        T.of("CAST (nothing is no CAST); NULL; SIZE: n below 0; INDEX");
        T.refuses(States::rows, "hall 0 0 1 5 = INDEX", "hall 0 0 5 1 = INDEX", "hall 0 0 6 0 = INDEX",
            "hall 0 0 6 -1 = SIZE", "hall 0 0 0 most = INDEX", "hall 0 0 most most = INDEX",
            "hall 0 0 most 1 = INDEX", "hall 0 0 5 most = INDEX", "hall 0 0 least 0 = INDEX",
            "hall 0 0 least least = SIZE", "hall 0 0 1 4 = -100", "hall 0 0 5 0 = -100");
    }

    private static void lessFirstFault() {
        T.of("-100 less the FIRST FAULT");
        // a row that is too short is an INDEX, be its first code a fault or not
        T.refuses(States::rows, "hall 0 0 0 5 = -100", "hall 0 0 0 6 = INDEX");
        text("", -100);
        text("r", -101);
        text(EIGHT + "12345678", -152);
        SugarLoop x = States.rows();
        T.runs(x, "hall 0 0 0 5 = -100", "fault = 0", "many 0 = 0");
    }

    private static void ofTable() {
        T.of("Of a TABLE: 0 kind, 1 RANK, 2 WANT, 3 WARM, 4 how many it LEAVES, 5 how many it HAS");
        T.inHall("r364;g0000;c9939", "ofTable 0 0 = 0", "ofTable 0 1 = 0", "ofTable 0 2 = 0", "ofTable 0 3 = 0",
            "ofTable 0 4 = 0", "ofTable 0 5 = 0", "ofTable 1 0 = 2", "ofTable 1 1 = 9", "ofTable 1 2 = 9",
            "ofTable 1 3 = 39", "ofTable 1 4 = 5", "ofTable 1 5 = 0", "go 0 = 9", "ofTable 1 5 = 9", "ofTable 1 2 = 9",
            "clear = 9", "ofTable 1 5 = 0");
    }

    private static void ofTableRefusals() {
        T.of("5 how many it HAS. UNKNOWN; OUTSIDE.");
        T.refuses(States::halfway, "ofTable 2 -1 = OUTSIDE", "ofTable 2 6 = OUTSIDE", "ofTable 2 least = OUTSIDE",
            "ofTable 2 most = OUTSIDE", "ofTable 3 -1 = UNKNOWN", "ofTable -1 6 = UNKNOWN", "ofTable 3 0 = UNKNOWN");
        T.refuses(States::rows, "ofTable 0 0 = UNKNOWN", "ofTable 0 6 = UNKNOWN");
    }

    private static void bow() {
        T.of("RANK of a TABLE becomes v (0 .. 9): what it was");
        T.inHall(EIGHT, "bow 7 0 = 2", "bow 7 9 = 0", "bow 7 9 = 9", "ofTable 7 1 = 9", "ofTable 7 4 = 5", "bow 0 9 = 0",
            "bow 0 0 = 9", "ofTable 0 1 = 0", "ofTable 1 1 = 1");
        // what it has already it keeps, be it politer now
        T.inHall("r102;g0939;g0039", "go 0 = 9", "bow 0 9 = 0", "ofTable 0 5 = 9", "run 0 0 = 1");
    }

    private static void bowRefusals() {
        T.of("RANK of a TABLE becomes v (0 .. 9): what it was. UNKNOWN; OUTSIDE.");
        T.refuses(States::halfway, "bow 0 -1 = OUTSIDE", "bow 0 10 = OUTSIDE", "bow 2 least = OUTSIDE",
            "bow 2 most = OUTSIDE", "bow 3 0 = UNKNOWN", "bow 3 10 = UNKNOWN", "bow -1 -1 = UNKNOWN");
        T.refuses(States::rows, "bow 0 0 = UNKNOWN", "bow 0 10 = UNKNOWN");
    }

    private static void heat() {
        T.of("WARM of a TABLE becomes v (0 .. 39): what it was");
        T.inHall(EIGHT, "heat 7 0 = 39", "heat 7 39 = 0", "heat 7 39 = 39", "ofTable 7 3 = 39", "heat 0 0 = 39",
            "ofTable 0 3 = 0", "ofTable 1 3 = 39", "run 0 10 = 9", "heat 1 0 = 39", "run 0 11 = 0", "heat 1 1 = 0",
            "run 0 11 = 8");
    }

    private static void heatRefusals() {
        T.of("WARM of a TABLE becomes v (0 .. 39): what it was. UNKNOWN; OUTSIDE.");
        T.refuses(States::halfway, "heat 0 -1 = OUTSIDE", "heat 0 40 = OUTSIDE", "heat 2 least = OUTSIDE",
            "heat 2 most = OUTSIDE", "heat 3 0 = UNKNOWN", "heat 3 40 = UNKNOWN", "heat -1 -1 = UNKNOWN");
        T.refuses(States::rows, "heat 0 0 = UNKNOWN", "heat 0 40 = UNKNOWN");
    }

    private static void load() {
        T.of("LUMPS on the train become v (0 .. 36): how many there were");
        T.inHall(States.TEXT, "load 0 = 12", "many 1 = 0", "run 0 0 = 0", "run 0 1 = 0", "load 36 = 0", "many 1 = 36",
            "load 36 = 36", "load 1 = 36", "many 1 = 1");
        T.inHall("r364;g0939;g0939", "go 0 = 18", "load 36 = 18", "clear = 18", "many 1 = 54", "load 36 = 54");
    }

    private static void loadRefusals() {
        T.of("how many there were. OUTSIDE; STATE: there is no HALL.");
        T.refuses(States::halfway, "load -1 = OUTSIDE", "load 37 = OUTSIDE", "load least = OUTSIDE",
            "load most = OUTSIDE");
        T.refuses(States::rows, "load -1 = OUTSIDE", "load 37 = OUTSIDE", "load 0 = STATE", "load 36 = STATE");
    }
}
