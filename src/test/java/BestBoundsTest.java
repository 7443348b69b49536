/** Boundary cases of the sentences on what would be best, and of promises 13 to 16. */
public final class BestBoundsTest {
    private static final Sentences T = new Sentences("BestBoundsTest");

    public static void main(String[] args) {
        mostSweet();
        fewestPassedBy();
        leastOfSeveral();
        bestWithoutRounds();
        bestRefusals();
        fewestLumps();
        inPlaceOfThoseNow();
        enoughNone();
        enoughRefusals();
        tea();
        wagons();
        teaRefusals();
        mostBySwap();
        oneMoreAtLeast();
        allThatIsTold();
        leastFirst();
        thenLeastSecond();
        swapNone();
        swapRefusals();
        T.end();
    }

    private static void mostSweet() {
        T.of("the POINTS of a RUN by which the most are SWEET at its end");
        T.inHall("r011;g0139;g0139", "best 0 = 0", "best 1 = 1");
        T.inHall("r021;g0239;g0139;g0139", "best 0 = 1", "best 1 = 2");
        // whoever wants none is sweet by any points
        T.inHall("r001;g0039;g0039", "best 0 = 0", "best 1 = 2");
        T.inHall("r001;g0139;g0139", "best 0 = 0", "best 1 = 0");
        // of eight tables seven must be passed by
        T.inHall("r091;g1939;g1939;g1939;g1939;g1939;g1939;g1939;g0939", "best 0 = 127", "best 1 = 1");
        T.inHall("r364;g0939;g0939;g0939;g0939;g0939;g0939;g0939;g0139", "best 0 = 0", "best 1 = 4");
    }

    private static void fewestPassedBy() {
        T.of("of these the fewest TABLES PASSED BY");
        // by the last alone two are sweet, as by the first two, which are the lesser number
        T.inHall("r062;c0302;g4304;c1304;g1205", "run 3 2 = 12", "run 4 2 = 9", "best 0 = 4", "best 1 = 2");
        // no table is passed by if that is as good
        T.inHall("r091;g0939;g0939", "run 1 1 = 1", "best 0 = 0", "best 1 = 1");
    }

    private static void leastOfSeveral() {
        T.of("of several the least. ENOUGH");
        T.inHall("r041;g0239;g0239;g0139;g0139", "run 1 1 = 3", "run 2 1 = 3", "best 0 = 1", "best 1 = 3");
        T.inHall("r021;g0239;g0239;g0139;g0139", "run 3 1 = 2", "best 0 = 3", "best 1 = 2");
        T.inHall("r011;g1039;g0239;g0239;g0139", "run 6 2 = 9", "best 0 = 6", "best 1 = 2");
    }

    private static void bestWithoutRounds() {
        T.of("BEST: POINTS (what 0), how many are SWEET (1)");
        T.runs(States.over(), "best 0 = 0", "best 1 = 3", "clear = 9", "load 11 = 12", "best 0 = 0", "best 1 = 2");
        T.runs(States.halfway(), "load 0 = 7", "best 0 = 0", "best 1 = 2");
        T.inHall("r021;g0239;g0139;g0139", "go 0 = 2", "best 0 = 0", "best 1 = 1");
    }

    private static void bestRefusals() {
        T.of("how many are SWEET (1). OUTSIDE; STATE: there is no HALL.");
        T.refuses(States::halfway, "best -1 = OUTSIDE", "best 2 = OUTSIDE", "best least = OUTSIDE", "best most = OUTSIDE",
            "best 0 = 0", "best 1 = 3");
        T.refuses(States::rows, "best -1 = OUTSIDE", "best 2 = OUTSIDE", "best 0 = STATE", "best 1 = STATE");
    }

    private static void fewestLumps() {
        T.of("ENOUGH for a TABLE: the fewest LUMPS 0 .. 36");
        T.inHall("r361;g0039;g9139;g9939", "enough 0 = 0", "enough 1 = 10", "enough 2 = 19");
        T.inHall("r001;g0939;g0939;g9939", "enough 0 = 9", "enough 1 = 18", "enough 2 = 36");
        T.inHall("r001;g0939;g0939;d9939", "enough 2 = NONE");
        T.inHall("r001;g0939;g0939;g0939;g0939;g0139", "enough 3 = 36", "enough 4 = NONE");
        // more lumps than these are no hindrance, nor are fewer
        T.inHall("r364;g0139;g0039", "enough 0 = 1");
    }

    private static void inPlaceOfThoseNow() {
        T.of("in place of those on the train now, by which it is SWEET at the end of a RUN by no POINTS");
        T.inHall("r004;g2339;g2339", "enough 0 = 5", "enough 1 = 8", "load 36 = 0", "enough 0 = 5", "go 2 = 3",
            "enough 0 = 0", "enough 1 = 5", "load 0 = 33", "enough 1 = 5", "many 1 = 0");
        // a table that is passed by in its turn goes on wanting; one with two of three wants one
        T.inHall("r042;g2339;g0139", "go 2 = 2", "enough 0 = 3", "enough 1 = 1", "go 0 = 1", "enough 0 = NONE",
            "enough 1 = 0");
    }

    private static void enoughNone() {
        T.of("NONE: by none. TEA");
        T.inHall("r361;g0139;g0100", "enough 0 = 1", "enough 1 = NONE", "heat 1 1 = 0", "enough 1 = 2", "go 3 = 0",
            "enough 0 = NONE", "enough 1 = NONE", "clear = 0", "enough 0 = 1");
        T.runs(States.over(), "enough 0 = 0", "clear = 9", "go 7 = 0", "go 7 = 0", "enough 0 = 5", "go 7 = 0",
            "enough 0 = NONE");
    }

    private static void enoughRefusals() {
        T.of("ENOUGH; NONE. UNKNOWN.");
        T.refuses(States::halfway, "enough -1 = UNKNOWN", "enough 3 = UNKNOWN", "enough 7 = UNKNOWN",
            "enough least = UNKNOWN", "enough most = UNKNOWN", "enough 0 = 0", "enough 2 = 0");
        T.refuses(States::rows, "enough 0 = UNKNOWN");
    }

    private static void tea() {
        T.of("TEA: the same for all TABLES");
        T.inHall("r361;g0000;g9000", "tea 0 = 0");
        T.inHall("r001;g9939;g9939;g9939", "tea 0 = 36", "bow 2 0 = 9", "tea 0 = 27");
        T.inHall("r361;g9939;g9939;d9939", "tea 0 = NONE", "tea 1 = NONE", "enough 1 = 27");
        T.inHall("r361;g0139;g0100;g0139", "tea 0 = NONE", "tea 1 = NONE", "heat 1 1 = 0", "tea 0 = 3");
        // in a round that has gone a table has got what it wants, and wants no more
        T.inHall("r064;g0639;g0639", "tea 0 = 12", "go 2 = 6", "tea 0 = 6", "load 36 = 0", "tea 0 = 6", "go 0 = 6",
            "tea 0 = 0", "tea 1 = 0");
    }

    private static void wagons() {
        T.of("WAGONS: how many are needed, each of which holds six (rounded up)");
        for (int lumps = 0; lumps <= 36; lumps++) {
            int first = Math.min(9, lumps);
            int second = Math.min(9, lumps - first);
            int third = Math.min(9, lumps - first - second);
            SugarLoop x = Calls.with("r001;g0" + first + "39;g0" + second + "39;g0" + third + "39;g0"
                + (lumps - first - second - third) + "39");
            T.runs(x, "tea 0 = " + lumps, "tea 1 = " + (lumps % 6 == 0 ? lumps / 6 : lumps / 6 + 1));
        }
        T.inHall("r001;g0939;g0939;g0939;g0939;g0139", "tea 1 = NONE");
    }

    private static void teaRefusals() {
        T.of("TEA: LUMPS (what 0), WAGONS (1); NONE. OUTSIDE; STATE: there is no HALL.");
        T.refuses(States::halfway, "tea -1 = OUTSIDE", "tea 2 = OUTSIDE", "tea least = OUTSIDE", "tea most = OUTSIDE",
            "tea 0 = 6", "tea 1 = 1");
        T.refuses(States::rows, "tea -1 = OUTSIDE", "tea 2 = OUTSIDE", "tea 0 = STATE", "tea 1 = STATE");
    }

    private static void mostBySwap() {
        T.of("two TABLES that change places (all that is told of them, what they HAVE, too) so that by a RUN by no POINTS "
            + "most are SWEET at its end");
        // by the first and the second place as many are sweet as before, or one more; by a greater one most
        T.inHall("r041;g0439;g0339;g0139;g0339", "run 0 1 = 1", "swap 0 = 2", "swap 1 = 0", "swap 2 = 2");
        T.inHall("r031;g0439;g0239;g0139;g0139", "run 0 1 = 0", "swap 0 = 2", "swap 1 = 0", "swap 2 = 2");
        // the first and the last place of eight
        T.inHall("r081;g1939;g0139;g0139;g0139;g0139;g0139;g0139;g0239", "run 0 1 = 1", "swap 0 = 7", "swap 1 = 0",
            "swap 2 = 7");
    }

    private static void oneMoreAtLeast() {
        T.of("1 more at least than without");
        T.inHall("r061;g0339;g5139", "run 0 1 = 1", "swap 0 = 2", "swap 1 = 0", "swap 2 = 1");
        T.inHall("r031;g0339;g0339", "run 0 1 = 1", "swap 0 = NONE", "swap 1 = NONE", "swap 2 = NONE");
        T.inHall("r001;g0039;g0039", "run 0 1 = 2", "swap 0 = NONE", "swap 1 = NONE", "swap 2 = NONE");
        T.inHall("r361;g0939;g0939", "swap 0 = NONE");
    }

    private static void allThatIsTold() {
        T.of("(all that is told of them, what they HAVE, too)");
        T.inHall("r061;g0309;g0300", "run 0 1 = 1", "swap 0 = 2");
        T.inHall("r061;g0301;g0300", "swap 0 = 2", "heat 0 0 = 1", "swap 0 = NONE");
        T.inHall("r061;d1239;c5239", "run 0 1 = 1", "swap 0 = 2");
        // who has all that it wants is sweet in any place
        T.inHall("r062;g0209;g5109", "swap 0 = 2", "go 2 = 2", "swap 0 = NONE", "clear = 2", "swap 0 = 2", "swap 2 = 1");
        // one that has three of four goes to the first place, where one is left for it
        T.inHall("r033;g0139;g0439", "go 1 = 3", "load 1 = 0", "run 0 2 = 1", "swap 0 = NONE", "load 2 = 1",
            "run 0 2 = 3");
        T.inHall("r033;g0239;g0439", "go 1 = 3", "load 1 = 0", "run 0 2 = 0", "swap 0 = 1", "swap 1 = 0", "swap 2 = 1",
            "ofTable 0 5 = 0", "ofTable 1 5 = 3", "run 0 2 = 0");
    }

    private static void leastFirst() {
        T.of("of several the one with the least first");
        T.inHall("r061;g0339;g5139;g5139", "swap 0 = 2", "swap 1 = 0", "swap 2 = 1");
        // the third place for the second or the first: one is sweet by both
        T.inHall("r011;g0239;g0239;g0139", "run 0 1 = 0", "swap 0 = 1", "swap 1 = 0", "swap 2 = 2");
        T.inHall("r051;g0239;g0539;g0139", "run 0 1 = 1", "swap 0 = 2", "swap 1 = 1", "swap 2 = 2");
    }

    private static void thenLeastSecond() {
        T.of("then the least second place (the first is the lesser one)");
        T.inHall("r011;g0239;g0139;g0139", "run 0 1 = 0", "swap 0 = 1", "swap 1 = 0", "swap 2 = 1");
        T.inHall("r051;g0539;g0139;g5139;g0139", "swap 0 = 2", "swap 1 = 0", "swap 2 = 3");
    }

    private static void swapNone() {
        T.of("NONE: there are none");
        for (String what : new String[] {"0", "1", "2"}) {
            T.runs(States.begun(), "swap " + what + " = NONE");
            T.runs(States.over(), "swap " + what + " = NONE");
        }
        // without a round no change of places helps
        T.inHall("r061;g0339;g5139", "go 3 = 0", "swap 0 = NONE", "clear = 0", "swap 0 = 2");
    }

    private static void swapRefusals() {
        T.of("SWAP: how many are SWEET then (what 0), the lesser place (1), the greater one (2); NONE. OUTSIDE; "
            + "STATE: there is no HALL.");
        T.refuses(States::halfway, "swap -1 = OUTSIDE", "swap 3 = OUTSIDE", "swap least = OUTSIDE", "swap most = OUTSIDE",
            "swap 2 = NONE");
        T.refuses(States::rows, "swap -1 = OUTSIDE", "swap 3 = OUTSIDE", "swap 0 = STATE", "swap 2 = STATE");
        T.refuses(() -> latest("r061;g0339;g5139"), "swap 0 = 2", "swap 1 = 0", "swap 2 = 1", "swap 3 = OUTSIDE");
    }

    private static SugarLoop latest(String text) {
        SugarLoop x = Calls.with(text);
        x.sheet(0, 0, -1);
        return x;
    }
}
