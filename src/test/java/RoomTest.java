import java.lang.management.ManagementFactory;

/** Calls make no objects: their room is made with the object and used again. */
public final class RoomTest {
    private static final Due DUE = new Due("RoomTest");
    private static final String EIGHT = "r364;g0939;g1839;d0739;d1639;c0539;c9439;g9339;c2239";
    /** What the machine may need for itself; a row for each call would be a hundred times as much. */
    private static final long ALLOWED = 20_000;

    public static void main(String[] args) {
        com.sun.management.ThreadMXBean room =
            (com.sun.management.ThreadMXBean) ManagementFactory.getThreadMXBean();
        calls(Calls.with(EIGHT), 20);
        SugarLoop x = Calls.with(EIGHT);
        long before = room.getCurrentThreadAllocatedBytes();
        calls(x, 500);
        long used = room.getCurrentThreadAllocatedBytes() - before;
        DUE.holds("calls use no room, but " + used + " bytes", used < ALLOWED);

        before = room.getCurrentThreadAllocatedBytes();
        SugarLoop[] many = new SugarLoop[1000];
        for (int k = 0; k < many.length; k++) {
            many[k] = new SugarLoop();
        }
        long each = (room.getCurrentThreadAllocatedBytes() - before) / many.length;
        DUE.holds("a new object is small, but has " + each + " bytes", each < 4000);
        DUE.end();
    }

    private static void calls(SugarLoop x, int times) {
        for (int call = 0; call < times; call++) {
            x.sheet(call % 3, call % 3, 60);
            x.hall(3, 0, 0, 52);
            x.reading(7, 0, 1);
            x.best(0);
            x.tea(1);
            x.swap(0);
            x.ranks(1);
            x.kinds(2);
            x.wants(3);
            x.odds(7, 1);
            x.lump(0, 34, 0);
            x.plan(call % 3, call % 3, 0, 4, 2);
            x.copy(call % 3, 0, call % 3, 1, 59);
            x.cell(call % 3, 60, 0);
            x.tell(7);
            x.pour(7);
            x.as(7, 2);
            x.go(0);
            x.clear();
        }
    }
}
