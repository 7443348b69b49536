/** Rows of numbers and halls for a SugarLoop, told by its own calls. */
final class Calls {
    private Calls() {
    }

    /** Puts codes into a new row of a sheet. */
    static void write(SugarLoop x, int sheet, int lane, String text) {
        x.sheet(sheet, lane, text.length());
        for (int i = 0; i < text.length(); i++) {
            x.put(sheet, i, text.charAt(i));
        }
    }

    static void write(SugarLoop x, int sheet, int lane, int... cells) {
        x.sheet(sheet, lane, cells.length);
        for (int i = 0; i < cells.length; i++) {
            x.put(sheet, i, cells[i]);
        }
    }

    /** What hall answers of a text in sheet 3. */
    static int furnish(SugarLoop x, String text) {
        write(x, 3, 0, text);
        return x.hall(3, 0, 0, text.length());
    }

    static SugarLoop with(String text) {
        SugarLoop x = new SugarLoop();
        furnish(x, text);
        return x;
    }
}
