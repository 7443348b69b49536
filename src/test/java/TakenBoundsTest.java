/** Boundary cases of the sentences on what was taken, and of promises 17 to 22. */
public final class TakenBoundsTest {
    private static final Sentences T = new Sentences("TakenBoundsTest");

    public static void main(String[] args) {
        eightAtMost();
        numberedByThoseAhead();
        whenAsked();
        inPlace();
        allReadings();
        ranksOf();
        kindsOf();
        wantsOf();
        anyPoints();
        reading();
        readingRefusals();
        back();
        backRefusals();
        ranksRefusals();
        kindsRefusals();
        wantsRefusals();
        odds();
        oddsRefusals();
        T.end();
    }

    private static void eightAtMost() {
        T.of("READINGS, 8 at most");
        SugarLoop x = Calls.with(States.EIGHT);
        for (int k = 0; k < 8; k++) {
            T.runs(x, "many 4 = " + k, "reading 0 0 9 = " + k);
        }
        T.runs(x, "many 4 = 8", "reading 0 0 9 = FULL", "reading 7 255 0 = FULL", "many 4 = 8", "back 1 = 7",
            "reading 0 0 9 = 7", "reading 0 0 9 = FULL", "back 8 = 0", "reading 0 0 9 = 0");
        // the eighth counts, the ninth that was refused does not
        x = Calls.with("r361;g0139;g0139");
        for (int k = 0; k < 7; k++) {
            x.reading(0, 0, 1);
        }
        T.runs(x, "wants 0 = 2", "reading 1 0 7 = 7", "wants 0 = 0", "wants 1 = 128", "reading 1 0 1 = FULL",
            "wants 1 = 128", "back 1 = 7", "wants 1 = 1023");
    }

    private static void numberedByThoseAhead() {
        T.of("each numbered by how many there are ahead of it (the first one 0)");
        T.inHall(States.TEXT, "reading 0 0 0 = 0", "reading 0 0 0 = 1", "reading 2 7 36 = 2", "back 2 = 1",
            "reading 1 0 0 = 1", "back 0 = 2", "reading 1 0 0 = 2", "back 3 = 0", "reading 1 0 0 = 0");
    }

    private static void whenAsked() {
        T.of("by a RUN by POINTS, from how all is when something is asked of it (not when it was told), a TABLE took so many");
        T.inHall("r052;g0339;g0339", "reading 1 0 2 = 0", "wants 0 = 8", "load 6 = 5", "wants 0 = 16", "load 2 = 6",
            "wants 0 = 1", "load 1 = 2", "wants 0 = 0", "load 5 = 1", "go 2 = 3", "wants 0 = 15", "wants 1 = 1020",
            "clear = 3", "wants 0 = 8", "heat 0 0 = 39", "go 3 = 0", "wants 0 = 0", "wants 1 = 4");
        // behind the last round no table takes any
        T.inHall("r051;g0339;g0339", "reading 0 0 3 = 0", "ranks 0 = 7", "go 0 = 5", "ranks 0 = 0", "kinds 1 = 0",
            "reading 0 0 0 = 1", "back 2 = 0", "reading 0 0 0 = 0", "ranks 0 = 1023", "wants 0 = 1023", "kinds 0 = 7");
    }

    private static void inPlace() {
        T.of("in place of what it is alone, by which all READINGS are so");
        // by a reading of the second the first may be politer, or want less
        T.inHall("r051;g0339;g0339", "reading 1 0 3 = 0", "ranks 0 = 1016", "kinds 0 = 0", "wants 0 = 7", "ranks 1 = 0",
            "bow 0 3 = 0", "ranks 1 = 1", "ranks 0 = 1016", "kinds 0 = 3", "bow 0 2 = 3", "kinds 0 = 2", "wants 0 = 7",
            "ofTable 0 0 = 0", "ofTable 0 1 = 2", "ofTable 0 2 = 3");
    }

    private static void allReadings() {
        T.of("All that follows: in place of what it is alone, by which all READINGS are so");
        T.inHall("r091;g0539;g0539", "ranks 0 = 1023", "reading 0 0 5 = 0", "ranks 0 = 31", "reading 1 0 4 = 1",
            "ranks 0 = 31", "reading 1 1 5 = 2", "ranks 0 = 31", "reading 1 0 5 = 3", "ranks 0 = 0", "wants 0 = 0",
            "kinds 0 = 0", "back 1 = 3", "ranks 0 = 31", "wants 0 = 32", "kinds 0 = 7");
        // the first one is the one that is not so
        T.inHall("r091;g0539;g0539", "reading 0 0 36 = 0", "reading 0 0 5 = 1", "ranks 0 = 0", "wants 1 = 0",
            "kinds 1 = 0");
    }

    private static void ranksOf() {
        T.of("RANKS of a TABLE: 0 .. 9");
        T.inHall("r101;g0139;d0139;c0139", "ranks 0 = 1023", "ranks 1 = 1023", "ranks 2 = 1023", "reading 0 0 0 = 0",
            "ranks 0 = 0", "load 9 = 10", "ranks 0 = 512", "load 0 = 9", "ranks 0 = 1023", "back 1 = 0",
            "reading 0 0 1 = 0", "ranks 0 = 0", "load 1 = 0", "ranks 0 = 1", "load 10 = 1", "ranks 0 = 1023");
        T.inHall("r101;g0039;d0139;c0139", "reading 1 0 1 = 0", "ranks 1 = 511", "load 1 = 10", "ranks 1 = 0",
            "load 2 = 1", "ranks 1 = 1", "load 11 = 2", "ranks 1 = 1023", "back 1 = 0", "reading 2 2 1 = 0",
            "load 5 = 11", "ranks 2 = 511", "load 6 = 5", "ranks 2 = 1023", "load 1 = 6", "ranks 2 = 1", "load 0 = 1",
            "ranks 2 = 0");
    }

    private static void kindsOf() {
        T.of("KINDS of a TABLE: 0 .. 2");
        // by RANK 9 a guest leaves 9, a duke 10, a child 5
        T.inHall("r051;g9139;g0039", "kinds 0 = 7", "reading 0 0 0 = 0", "kinds 0 = 7", "load 6 = 5", "kinds 0 = 3",
            "load 9 = 6", "kinds 0 = 3", "load 10 = 9", "kinds 0 = 2", "load 11 = 10", "kinds 0 = 0", "back 1 = 0",
            "reading 0 0 1 = 0", "kinds 0 = 7", "load 10 = 11", "kinds 0 = 5", "load 9 = 10", "kinds 0 = 4",
            "load 5 = 9", "kinds 0 = 0", "ofTable 0 0 = 0");
        T.inHall("r061;c9139;g0039", "reading 0 0 1 = 0", "kinds 0 = 4", "ofTable 0 0 = 2", "bow 0 0 = 9", "kinds 0 = 7",
            "load 1 = 6", "kinds 0 = 5", "load 0 = 1", "kinds 0 = 0");
    }

    private static void wantsOf() {
        T.of("WANTS of a TABLE: 0 .. 9; as sets");
        T.inHall("r361;g0539;g0539", "wants 0 = 1023", "reading 0 0 0 = 0", "wants 0 = 1", "back 1 = 0",
            "reading 0 0 9 = 0", "wants 0 = 512", "back 1 = 0", "reading 0 0 10 = 0", "wants 0 = 0", "back 1 = 0",
            "load 9 = 36", "reading 0 0 9 = 0", "wants 0 = 512", "load 8 = 9", "wants 0 = 0", "back 1 = 0",
            "reading 0 0 8 = 0", "wants 0 = 768", "ofTable 0 2 = 5");
        T.inHall("r362;g0939;g0539", "go 2 = 9", "reading 0 0 0 = 0", "wants 0 = 1023", "back 1 = 0",
            "reading 0 0 1 = 0", "wants 0 = 0");
    }

    private static void anyPoints() {
        T.of("ODDS of a TABLE: if a RUN goes by any POINTS, all sets alike: the share by which it is SWEET at its end");
        // never, always, in half, a quarter, an eighth of all sets
        T.inHall("r041;g0239;g0339;g0039", "odds 0 0 = 1", "odds 0 1 = 2", "odds 1 0 = 1", "odds 1 1 = 4",
            "odds 2 0 = 1", "odds 2 1 = 1", "load 1 = 4", "odds 0 0 = 0", "odds 0 1 = 1");
        T.inHall("r031;g1139;g1139;g0239", "odds 2 0 = 3", "odds 2 1 = 8", "load 2 = 3", "odds 2 0 = 1", "odds 2 1 = 8");
        T.inHall("r041;g0139;g0239;g0439", "odds 2 0 = 1", "odds 2 1 = 8", "go 6 = 1", "odds 0 0 = 1", "odds 0 1 = 1",
            "odds 2 0 = 0", "odds 2 1 = 1");
        // the more rounds are left, all by the same points, the odds are alike
        T.inHall("r013;g0139;g0139", "odds 1 0 = 1", "odds 1 1 = 4", "go 3 = 0", "odds 1 0 = 1", "odds 1 1 = 4");
    }

    private static void reading() {
        T.of("A READING: its number. UNKNOWN: TABLE; OUTSIDE: points, v (0 .. 36); FULL.");
        T.inHall("r361;g0139;g0139", "reading 0 0 0 = 0", "reading 1 3 36 = 1", "reading 0 4 0 = OUTSIDE",
            "reading 2 0 0 = UNKNOWN", "many 4 = 2");
        T.inHall(States.EIGHT, "reading 7 255 36 = 0", "reading 0 256 0 = OUTSIDE", "reading 8 0 0 = UNKNOWN",
            "many 4 = 1");
    }

    private static void readingRefusals() {
        T.of("UNKNOWN: TABLE; OUTSIDE: points, v (0 .. 36); FULL");
        T.refuses(States::halfway, "reading -1 -1 -1 = UNKNOWN", "reading 3 0 0 = UNKNOWN", "reading 3 8 37 = UNKNOWN",
            "reading 0 -1 0 = OUTSIDE", "reading 0 8 0 = OUTSIDE", "reading 0 least 0 = OUTSIDE",
            "reading 0 most 0 = OUTSIDE", "reading 0 0 -1 = OUTSIDE", "reading 0 0 37 = OUTSIDE",
            "reading 0 0 least = OUTSIDE", "reading 0 0 most = OUTSIDE");
        T.refuses(States::full, "reading 3 0 0 = UNKNOWN", "reading 2 8 0 = OUTSIDE", "reading 2 0 37 = OUTSIDE",
            "reading 2 7 36 = FULL", "reading 0 0 0 = FULL");
        T.refuses(States::rows, "reading 0 0 0 = UNKNOWN", "reading 0 1 37 = UNKNOWN");
    }

    private static void back() {
        T.of("The last k READINGS (0 .. as many as there are) are taken back: how many are left");
        T.runs(States.full(), "back 0 = 8", "back 1 = 7", "back 0 = 7", "back 8 = OUTSIDE", "back 7 = 0", "back 0 = 0",
            "back 1 = OUTSIDE");
        T.runs(States.full(), "back 8 = 0", "many 4 = 0", "ranks 0 = 1023");
        T.inHall("r361;g0139;g0139", "reading 0 0 1 = 0", "reading 0 0 2 = 1", "reading 0 0 3 = 2", "wants 0 = 0",
            "back 2 = 1", "wants 0 = 2", "reading 0 0 2 = 1", "wants 0 = 0", "back 1 = 1", "wants 0 = 2");
        T.runs(new SugarLoop(), "back 0 = 0", "back 1 = OUTSIDE");
    }

    private static void backRefusals() {
        T.of("are taken back: how many are left. OUTSIDE.");
        T.refuses(States::halfway, "back -1 = OUTSIDE", "back 3 = OUTSIDE", "back 8 = OUTSIDE", "back least = OUTSIDE",
            "back most = OUTSIDE", "back 0 = 2");
        T.refuses(States::full, "back -1 = OUTSIDE", "back 9 = OUTSIDE", "back 0 = 8");
        T.refuses(States::rows, "back -1 = OUTSIDE", "back 1 = OUTSIDE", "back 0 = 0");
        T.refuses(States::begun, "back 1 = OUTSIDE", "back 0 = 0");
    }

    private static void ranksRefusals() {
        T.of("RANKS, as a set. UNKNOWN.");
        unknown("ranks", "1023", "7");
    }

    private static void kindsRefusals() {
        T.of("KINDS, as a set. UNKNOWN.");
        unknown("kinds", "7", "7");
    }

    private static void wantsRefusals() {
        T.of("WANTS, as a set. UNKNOWN.");
        unknown("wants", "1023", "16");
    }

    private static void unknown(String call, String all, String byReadings) {
        T.refuses(States::halfway, call + " -1 = UNKNOWN", call + " 3 = UNKNOWN", call + " least = UNKNOWN",
            call + " most = UNKNOWN", call + " 1 = " + byReadings);
        T.refuses(States::rows, call + " 0 = UNKNOWN");
        T.refuses(States::begun, call + " 0 = " + all, call + " 2 = " + all, call + " 7 = UNKNOWN");
    }

    private static void odds() {
        T.of("ODDS (which 0 the upper, 1 the lower number)");
        T.runs(States.over(), "odds 0 0 = 1", "odds 0 1 = 1", "clear = 9", "go 7 = 0", "go 7 = 0", "go 7 = 0",
            "odds 0 0 = 0", "odds 0 1 = 1");
        StringBuilder text = new StringBuilder("r081");
        for (int t = 0; t < 8; t++) {
            text.append(";g0139");
        }
        T.inHall(text.toString(), "odds 7 0 = 1", "odds 7 1 = 2", "load 7 = 8", "odds 7 0 = 127", "odds 7 1 = 256",
            "odds 6 0 = 1", "odds 6 1 = 2", "load 1 = 7", "odds 7 0 = 1", "odds 7 1 = 256", "odds 0 0 = 1",
            "odds 0 1 = 2", "load 0 = 1", "odds 7 0 = 0", "odds 7 1 = 1");
    }

    private static void oddsRefusals() {
        T.of("ODDS (which 0 the upper, 1 the lower number). LOST: UNKNOWN; OUTSIDE.");
        T.refuses(States::halfway, "odds -1 0 = LOST", "odds 3 0 = LOST", "odds 3 2 = LOST", "odds 0 -1 = LOST",
            "odds 0 2 = LOST", "odds least 0 = LOST", "odds most 0 = LOST", "odds 0 least = LOST", "odds 0 most = LOST",
            "odds 0 0 = 1", "odds 2 1 = 1");
        T.refuses(States::rows, "odds 0 0 = LOST", "odds 0 1 = LOST");
    }
}
