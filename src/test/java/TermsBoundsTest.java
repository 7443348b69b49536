import java.lang.reflect.Method;
import java.util.ArrayList;
import java.util.List;
import java.util.function.Supplier;

/** Boundary cases of the sentences of "What it is" and of "Terms" that stand ahead of the sections. */
public final class TermsBoundsTest {
    private static final Sentences T = new Sentences("TermsBoundsTest");
    private static final String[] OF_TABLE = {"ofTable %s 0", "bow %s 0", "heat %s 0", "enough %s",
        "reading %s 0 0", "ranks %s", "kinds %s", "wants %s", "odds %s 0", "tell %s", "pour %s", "as %s 0"};

    public static void main(String[] args) {
        unknownTable();
        unknownSheet();
        firstRefusal();
        changesNothing();
        nothingIsNull();
        anotherLaneOrKind();
        indexOfNone();
        lengthBelowNone();
        firstFaultOfACall();
        lostWhereALong();
        faultTells();
        none();
        bits();
        quotients();
        shares();
        lastCall();
        T.end();
    }

    private static void unknownTable() {
        T.of("UNKNOWN (there is no such TABLE, SHEET, place of a row)");
        String[] texts = {"r121;g0000;g0000", States.TEXT, States.EIGHT};
        int[] tables = {2, 3, 8};
        for (int h = 0; h < texts.length; h++) {
            for (String call : OF_TABLE) {
                for (int t = 0; t < tables[h]; t++) {
                    SugarLoop x = Calls.with(texts[h]);
                    long answer = new Told(String.format(call, t)).on(x);
                    T.holds(String.format(call, t) + " is answered", answer >= 0 || answer == -9);
                }
                for (String t : new String[] {"-1", "" + tables[h], "8", "least", "most"}) {
                    T.inHall(texts[h], String.format(call, t) + " = UNKNOWN");
                }
            }
        }
        for (String call : OF_TABLE) {
            T.refuses(States::rows, String.format(call, 0) + " = UNKNOWN");
        }
    }

    private static void unknownSheet() {
        T.of("SHEETS 0 .. 3");
        String[] calls = {"hall %s 2 0 0", "plan %s 2 0 0 0", "sheet %s 2 1", "lose %s", "put %s 0 0", "cell %s 0 2",
            "copy %s 0 0 0 0", "copy 0 0 %s 0 0"};
        for (String call : calls) {
            for (int k = 0; k < 4; k++) {
                SugarLoop x = Calls.with(States.TEXT);
                for (int sheet = 0; sheet < 4; sheet++) {
                    x.sheet(sheet, 2, 1);
                }
                long answer = new Told(String.format(call, k)).on(x);
                T.holds(String.format(call, k) + " is answered", answer >= 0 || answer == -100);
            }
            for (String k : new String[] {"-1", "4", "least", "most"}) {
                T.refuses(States::rows, String.format(call, k) + " = UNKNOWN");
                T.refuses(States::halfway, String.format(call, k) + " = UNKNOWN");
            }
        }
    }

    private static void firstRefusal() {
        T.of("of several the first in the order in which a call's line tells them");
        T.refuses(States::empty, "hall 4 3 -1 -1 = UNKNOWN", "hall 3 3 -1 -1 = OUTSIDE", "load 37 = OUTSIDE",
            "go 1 = STATE", "run 1 4 = STATE", "lump 1 36 2 = STATE", "plan 4 3 -1 5 4 = UNKNOWN",
            "plan 0 3 -1 0 0 = OUTSIDE", "plan 0 0 -1 5 0 = OUTSIDE", "plan 0 0 -1 0 4 = OUTSIDE",
            "plan 0 0 -1 0 0 = STATE", "best 2 = OUTSIDE", "tea 2 = OUTSIDE", "swap 3 = OUTSIDE",
            "ofTable 0 6 = UNKNOWN", "bow 0 10 = UNKNOWN", "heat 0 40 = UNKNOWN", "reading 0 1 37 = UNKNOWN",
            "odds 0 2 = LOST", "sheet 4 3 61 = UNKNOWN", "sheet 4 0 -1 = UNKNOWN", "sheet 0 3 -1 = OUTSIDE",
            "put 4 -1 0 = UNKNOWN", "cell 4 -1 3 = LOST", "copy 4 -1 0 -1 -1 = UNKNOWN",
            "copy 0 -1 4 -1 -1 = UNKNOWN", "as 0 3 = UNKNOWN");
        T.refuses(States::over, "go 8 = OUTSIDE", "go 0 = STATE", "plan 0 0 0 5 0 = OUTSIDE",
            "plan 1 1 0 2 0 = OUTSIDE", "plan 0 0 0 1 0 = STATE");
        T.refuses(States::full, "reading 3 8 37 = UNKNOWN", "reading 0 8 0 = OUTSIDE", "reading 0 0 37 = OUTSIDE",
            "reading 0 0 0 = FULL", "ofTable 3 6 = UNKNOWN", "bow 3 10 = UNKNOWN", "heat 3 40 = UNKNOWN",
            "as 3 3 = UNKNOWN", "as 0 3 = OUTSIDE", "odds 3 2 = LOST");
    }

    /** All calls by all of some numbers, in all states: the refused ones, and those that only ask. */
    private static void changesNothing() {
        T.of("They change nothing (but fault(), of a call that names FAULTS)");
        for (Supplier<SugarLoop> state : States.ALL) {
            String before = Seen.of(state.get());
            for (Method m : Told.methods()) {
                for (String call : calls(m)) {
                    unchanged(state, before, new Told(call));
                }
            }
        }
    }

    private static void unchanged(Supplier<SugarLoop> state, String before, Told call) {
        SugarLoop x = state.get();
        long answer = call.on(x);
        int fault = x.fault();
        if (!call.namesFaults()) {
            T.is(call.line + ", fault() stays", fault, States.LATEST);
        } else if (answer <= -11 && answer >= -14) {
            T.is(call.line + ", fault() tells it", fault, -10 - answer);
        } else if (answer != SugarLoop.LOST) {
            T.is(call.line + ", fault() behind it", fault, 0);
        }
        if (answer < 0 || !call.mayChange()) {
            T.is(call.line + ", nothing is changed", Seen.of(x).equals(before) ? 1 : 0, 1);
        }
    }

    private static List<String> calls(Method m) {
        String[] numbers = m.getParameterCount() > 3
            ? new String[] {"-1", "0", "1", "5"} : new String[] {"least", "-1", "0", "2", "3", "8", "61", "most"};
        List<String> calls = new ArrayList<>(List.of(m.getName()));
        for (int p = 0; p < m.getParameterCount(); p++) {
            List<String> longer = new ArrayList<>();
            for (String call : calls) {
                for (String number : numbers) {
                    longer.add(call + " " + number);
                }
            }
            calls = longer;
        }
        return calls;
    }

    private static void nothingIsNull() {
        T.of("1 NULL (there is nothing)");
        T.refuses(States::rows, "hall 3 0 0 0 = NULL", "hall 3 2 0 22 = NULL", "put 3 0 1 = NULL", "cell 3 0 0 = NULL",
            "copy 3 0 0 0 0 = NULL", "copy 0 0 3 0 0 = NULL", "copy 3 0 3 0 0 = NULL");
        T.refuses(States::halfway, "plan 3 0 0 0 0 = NULL", "plan 3 2 0 1 0 = NULL");
        SugarLoop x = States.rows();
        T.runs(x, "sheet 3 0 0 = 1", "hall 3 0 0 0 = -100", "fault = 0", "copy 3 0 3 0 0 = 0", "fault = 0");
    }

    private static void anotherLaneOrKind() {
        T.of("2 CAST (it is of another LANE, kind)");
        for (int k = 0; k < 3; k++) {
            for (int lane = 0; lane < 3; lane++) {
                String hall = "hall " + k + " " + lane + " 0 0 = ";
                String plan = "plan " + k + " " + lane + " 0 0 0 = ";
                String copy = "copy " + k + " 0 " + lane + " 0 0 = ";
                if (lane == k) {
                    T.runs(States.halfway(), hall + "-100", "fault = 0", plan + "7", "fault = 0", copy + "0", "fault = 0");
                } else {
                    T.refuses(States::halfway, hall + "CAST", plan + "CAST", copy + "CAST",
                        "cell " + k + " 0 " + lane + " = CAST");
                }
            }
        }
        T.refuses(States::halfway, "as 0 1 = CAST", "as 0 2 = CAST", "as 1 2 = CAST");
    }

    private static void indexOfNone() {
        T.of("3 INDEX (of cells from i on also where i is not 0 .. how many there are, if none of them is taken, too)");
        String[] calls = {"hall 0 0 %s 0 = ", "plan 0 0 %s 0 0 = ", "copy 0 %s 0 0 0 = ", "copy 0 0 0 %s 0 = "};
        String[] taken = {"-100", "7", "0", "0"};
        for (int c = 0; c < calls.length; c++) {
            for (int i = 0; i <= 5; i++) {
                T.runs(States.halfway(), String.format(calls[c], i) + taken[c], "fault = 0");
            }
            for (String i : new String[] {"-1", "6", "7", "60", "61", "least", "most"}) {
                T.refuses(States::halfway, String.format(calls[c], i) + "INDEX");
            }
            SugarLoop x = States.halfway();
            T.runs(x, "sheet 0 0 0 = 1", String.format(calls[c], 0) + taken[c], String.format(calls[c], 1) + "INDEX",
                String.format(calls[c], -1) + "INDEX");
        }
        T.runs(States.rows(), "put 0 4 1 = 1", "fault = 0", "cell 0 4 0 = 1", "fault = 0");
        T.refuses(States::rows, "put 0 5 1 = INDEX", "put 0 -1 1 = INDEX", "cell 0 5 0 = INDEX", "cell 0 -1 0 = INDEX");
    }

    private static void lengthBelowNone() {
        T.of("4 SIZE (a length below 0)");
        T.refuses(States::rows, "hall 0 0 0 -1 = SIZE", "hall 0 0 0 least = SIZE", "sheet 0 0 -1 = SIZE",
            "sheet 3 2 least = SIZE");
        T.runs(States.rows(), "hall 0 0 0 0 = -100", "fault = 0", "sheet 0 0 0 = 1", "fault = 0");
    }

    private static void firstFaultOfACall() {
        T.of("Of a call the first that is come to, in the order told; it answers -10 less it");
        T.refuses(States::halfway, "hall 0 1 -1 -1 = CAST", "hall 3 1 -1 -1 = NULL", "hall 0 0 -1 -1 = SIZE",
            "hall 0 0 6 -1 = SIZE", "hall 0 0 -1 0 = INDEX", "hall 0 0 0 6 = INDEX", "plan 0 1 -1 0 0 = CAST",
            "plan 3 1 -1 0 0 = NULL", "plan 1 1 2 3 0 = INDEX", "put 3 -1 0 = NULL", "cell 0 -1 1 = CAST",
            "cell 3 -1 1 = NULL", "copy 3 -1 1 -1 -1 = NULL", "copy 1 -1 3 -1 -1 = NULL", "copy 0 -1 1 -1 -1 = CAST",
            "copy 0 -1 0 -1 -1 = INDEX");
    }

    private static void lostWhereALong() {
        T.of("(LOST, where a long is answered, as for refusals)");
        T.is("LOST", SugarLoop.LOST, Long.MIN_VALUE);
        SugarLoop x = States.halfway();
        String[] faults = {"cell 3 0 0", "cell 0 0 1", "cell 0 5 0"};
        for (int f = 0; f < faults.length; f++) {
            T.is(faults[f], new Told(faults[f]).on(x), SugarLoop.LOST);
            T.is("fault() behind " + faults[f], x.fault(), 1 + f);
        }
        for (String refused : new String[] {"cell 4 0 0", "cell 0 0 3", "odds 3 0", "odds 0 2"}) {
            T.is(refused, new Told(refused).on(x), SugarLoop.LOST);
        }
    }

    private static void faultTells() {
        T.of("and changes nothing; fault() tells it");
        SugarLoop x = States.halfway();
        T.runs(x, "fault = 4", "fault = 4", "put 3 0 0 = NULL", "fault = 1", "as 0 1 = CAST", "fault = 2",
            "put 0 5 0 = INDEX", "fault = 3", "sheet 0 0 -1 = SIZE", "fault = 4", "put 0 0 9 = 1", "fault = 0",
            "put 0 -1 9 = INDEX", "fault = 3", "put 4 0 0 = UNKNOWN", "fault = 0");
    }

    private static void none() {
        T.of("NONE is -9");
        T.is("NONE", SugarLoop.NONE, -9);
        T.is("run 0 17", States.begun().run(0, 17), -9);
    }

    private static void bits() {
        T.of("Sets are told as bits (bit k for number k)");
        // nobody wants more than none but table t
        for (int t = 0; t < 8; t++) {
            StringBuilder text = new StringBuilder("r361");
            for (int table = 0; table < 8; table++) {
                text.append(table == t ? ";g0139" : ";g0039");
            }
            T.inHall(text.toString(), "sweet = " + (255 - (1 << t)), "run " + (1 << t) + " 2 = " + (255 - (1 << t)),
                "run " + (255 - (1 << t)) + " 2 = 255", "wants " + t + " = 1023", "go " + (255 - (1 << t)) + " = 1",
                "sweet = 255");
        }
        T.inHall("r361;g9939;g0039", "reading 0 0 9 = 0", "wants 0 = 512", "ranks 0 = 1023", "reading 0 0 8 = 1",
            "wants 0 = 0", "back 1 = 1", "load 9 = 36", "ranks 0 = 1");
    }

    private static void quotients() {
        T.of("Quotients are cut");
        T.inHall("r361;c0000;c1000;c2000;c3000;c8000;c9000", "ofTable 0 4 = 0", "ofTable 1 4 = 1", "ofTable 2 4 = 1",
            "ofTable 3 4 = 2", "ofTable 4 4 = 4", "ofTable 5 4 = 5");
    }

    private static void shares() {
        T.of("Shares are told as upper and lower number (above 0) in least terms");
        // never, always, in half of all sets
        T.inHall("r361;g0939;g0039", "heat 0 0 = 39", "load 8 = 36", "odds 0 0 = 0", "odds 0 1 = 1", "odds 1 0 = 1",
            "odds 1 1 = 1", "load 9 = 8", "odds 0 0 = 1", "odds 0 1 = 2");
        String seven = "g0139;g0139;g0139;g0139;g0139;g0139;g0139;";
        // all seven others must be passed by: one of 256 sets; one of them at least: 127 of 256
        T.inHall("r071;" + seven + "g0739", "odds 7 0 = 1", "odds 7 1 = 256");
        T.inHall("r071;" + seven + "g0139", "odds 7 0 = 127", "odds 7 1 = 256");
    }

    private static void lastCall() {
        T.of("An object is used for at most 512 calls after it has been made");
        SugarLoop x = new SugarLoop();
        int calls = 2;
        Calls.write(x, 3, 0, States.TEXT);
        calls += States.TEXT.length();
        T.is("a hall", x.hall(3, 0, 0, States.TEXT.length()), 3);
        int trace = 0;
        while (calls < 511) {
            x.pour(calls % 3);
            trace = 31 * trace + (calls % 3 == 2 ? 5 : 4);
            calls++;
        }
        T.is("the last call but none", x.trace(), trace);
        x = new SugarLoop();
        for (calls = 0; calls < 511; calls++) {
            x.put(calls % 4, 0, calls);
        }
        T.is("the last call but none", x.fault(), 1);
    }
}
