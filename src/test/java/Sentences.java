import java.io.IOException;
import java.io.UncheckedIOException;
import java.nio.file.Files;
import java.nio.file.Path;
import java.util.function.Supplier;

/** Checks of a test, each under the sentence of the document, word by word, that asks for it. */
final class Sentences {
    private final Due due;
    private final String document;
    private String sentence = "";
    private int checks = 1;

    Sentences(String test) {
        due = new Due(test);
        try {
            document = words(Files.readString(Path.of("../shared/DOC.md")));
        } catch (IOException e) {
            throw new UncheckedIOException(e);
        }
    }

    private static String words(String text) {
        return text.replaceAll("\\s+", " ");
    }

    /** All checks from here on stand under that sentence. */
    void of(String words) {
        due.holds("'" + sentence + "' has checks", checks > 0);
        due.holds("the document says '" + words + "'", document.contains(words(words)));
        sentence = words;
        checks = 0;
    }

    void is(String told, long got, long want) {
        checks++;
        due.is("'" + sentence + "': " + told, got, want);
    }

    void holds(String claim, boolean so) {
        is(claim, so ? 1 : 0, 1);
    }

    /** Calls one after the other on one object. */
    void runs(SugarLoop x, String... lines) {
        for (String line : lines) {
            Told told = new Told(line);
            is(line, told.on(x), told.due());
        }
    }

    /** Calls on a hall that has just been told. */
    void inHall(String text, String... lines) {
        runs(Calls.with(text), lines);
    }

    /** Calls, each on an object of its own: it changes nothing, and fault() tells what is due. */
    void refuses(Supplier<SugarLoop> state, String... lines) {
        String before = Seen.of(state.get());
        for (String line : lines) {
            SugarLoop x = state.get();
            Told told = new Told(line);
            is(line, told.on(x), told.due());
            int fault = told.dueFault();
            is(line + ", fault() behind it", x.fault(), fault == Told.STAYS ? States.LATEST : fault);
            is(line + ", nothing is changed", Seen.of(x).equals(before) ? 1 : 0, 1);
        }
    }

    void end() {
        of("");
        due.end();
    }
}
