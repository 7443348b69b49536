import java.util.List;
import java.util.function.Supplier;

/** Objects as boundary cases find them; the latest fault of each is a SIZE. */
final class States {
    static final int LATEST = 4;
    /** Twelve lumps, three rounds; LEAVES are 2, 2, 3, and all tea is warm to the end. */
    static final String TEXT = "r123;g2315;d1415;c5215";
    static final String EIGHT = "r364;g0939;g1839;d0739;d1639;c0539;c9439;g9339;c2239";

    static final List<Supplier<SugarLoop>> ALL = List.of(States::empty, States::rows, States::begun,
        States::halfway, States::over, States::full);

    private States() {
    }

    static SugarLoop empty() {
        return latest(new SugarLoop());
    }

    /** No hall; rows of five bytes, four shorts, three ints; the last sheet has nothing. */
    static SugarLoop rows() {
        return latest(withRows(new SugarLoop()));
    }

    static SugarLoop begun() {
        return latest(made());
    }

    /** One round of three has gone: table 0 has 3, table 2 has 2, seven lumps are left. */
    static SugarLoop halfway() {
        SugarLoop x = made();
        x.go(2);
        x.reading(1, 0, 4);
        x.reading(0, 5, 0);
        x.tell(2);
        return latest(x);
    }

    /** No round is left. */
    static SugarLoop over() {
        SugarLoop x = made();
        x.go(2);
        x.go(3);
        x.go(0);
        return latest(x);
    }

    /** Eight readings. */
    static SugarLoop full() {
        SugarLoop x = made();
        for (int k = 0; k < 8; k++) {
            x.reading(k % 3, 0, 3 + (k % 3 == 1 ? 1 : k % 3 == 2 ? -1 : 0));
        }
        return latest(x);
    }

    private static SugarLoop made() {
        SugarLoop x = Calls.with(TEXT);
        x.lose(3);
        return withRows(x);
    }

    private static SugarLoop withRows(SugarLoop x) {
        Calls.write(x, 0, 0, 0, 1, 2, 4, 7);
        Calls.write(x, 1, 1, 7, 8, -1, 0);
        Calls.write(x, 2, 2, 3, 300, -5);
        return x;
    }

    private static SugarLoop latest(SugarLoop x) {
        x.sheet(3, 0, -1);
        return x;
    }
}
