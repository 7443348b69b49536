/** All that can be seen of an object, but for fault(), which looking at sheets changes. */
final class Seen {
    private Seen() {
    }

    static String of(SugarLoop x) {
        StringBuilder seen = new StringBuilder("trace ").append(x.trace()).append(", many");
        for (int what = 0; what < 5; what++) {
            seen.append(' ').append(x.many(what));
        }
        for (int t = 0; t < x.many(0); t++) {
            seen.append("; table");
            for (int what = 0; what < 6; what++) {
                seen.append(' ').append(x.ofTable(t, what));
            }
            seen.append(" fits ").append(x.ranks(t)).append(' ').append(x.kinds(t)).append(' ').append(x.wants(t));
        }
        seen.append("; sweet ").append(x.sweet()).append(" run");
        for (int what = 0; what < 4; what++) {
            seen.append(' ').append(x.run(0, what));
        }
        for (int k = 0; k < 4; k++) {
            row(x, k, seen);
        }
        return seen.toString();
    }

    private static void row(SugarLoop x, int k, StringBuilder seen) {
        seen.append("; sheet");
        for (int lane = 0; lane < 3; lane++) {
            long cell = x.cell(k, 0, lane);
            for (int i = 1; cell != SugarLoop.LOST; i++) {
                seen.append(' ').append(cell);
                cell = x.cell(k, i, lane);
            }
            seen.append(" fault ").append(x.fault());
        }
    }
}
