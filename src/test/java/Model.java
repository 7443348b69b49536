import java.math.BigInteger;
import java.util.ArrayList;
import java.util.Collections;
import java.util.List;
import java.util.function.LongSupplier;
import java.util.regex.Matcher;
import java.util.regex.Pattern;

/**
 * The document told a second time, for comparison with the program: with tables of three classes,
 * rows and faults of the Java machine's own, and all answers drawn from lists of single lumps.
 */
public final class Model {
    private static final Pattern TEXT = Pattern.compile(
        "r(?:[012]\\d|3[0-6])[1-4](?:;[gdc]\\d\\d[0-3]\\d){2,8}");
    private static final long UNKNOWN = -1, OUTSIDE = -2, STATE = -3, FULL = -4, NONE = -9;
    private static final long LOST = Long.MIN_VALUE;
    /** No row has more cells, so that a copy of more is beyond it, too. */
    private static final int ROOM = 60;

    private final Object[] rows = new Object[4];
    private List<Guest> tables = new ArrayList<>();
    private int lumps, rounds, gone;
    private final List<int[]> readings = new ArrayList<>();
    private int trace;
    private int fault;

    /** The body that is lent to all who have none of their own. */
    private interface Poured {
        default int poured(Model m, int place) {
            m.leave(4);
            return place;
        }
    }

    private static class Guest implements Poured {
        int rank, want, warm, has;

        int leaves() {
            return rank;
        }

        int told(Model m) {
            m.leave(1);
            return rank;
        }

        final int toldAsGuest(Model m) {
            m.leave(1);
            return rank;
        }

        Guest like(Guest other) {
            rank = other.rank;
            want = other.want;
            warm = other.warm;
            has = other.has;
            return this;
        }
    }

    private static class Duke extends Guest {
        @Override
        int leaves() {
            return super.leaves() + 1;
        }

        @Override
        int told(Model m) {
            m.leave(2);
            return super.told(m) + 100;
        }
    }

    private static final class Child extends Duke {
        @Override
        int leaves() {
            return super.leaves() / 2;
        }

        @Override
        int told(Model m) {
            m.leave(3);
            return super.told(m) + toldAsGuest(m);
        }

        @Override
        public int poured(Model m, int place) {
            m.leave(5);
            return 70;
        }
    }

    /** What some rounds come to: one {table, minute} for each lump that is taken. */
    private static final class Outcome {
        final List<int[]> taken = new ArrayList<>();
        final List<Guest> after = new ArrayList<>();
        int left;

        long by(int t) {
            return taken.stream().filter(l -> l[0] == t).count();
        }

        long sweet() {
            long set = 0;
            for (Guest g : after) {
                set |= g.has == g.want ? 1L << after.indexOf(g) : 0;
            }
            return set;
        }
    }

    private void leave(int body) {
        trace = trace * 31 + body;
    }

    private static Guest made(int kind) {
        return kind == 0 ? new Guest() : kind == 1 ? new Duke() : new Child();
    }

    private static int kind(Guest g) {
        return g instanceof Child ? 2 : g instanceof Duke ? 1 : 0;
    }

    private static Outcome outcome(List<Guest> from, int lumps, int gone, List<Integer> plan) {
        Outcome o = new Outcome();
        from.forEach(g -> o.after.add(made(kind(g)).like(g)));
        o.left = lumps;
        for (int r = 0; r < plan.size(); r++) {
            for (int t = 0; t < from.size(); t++) {
                Guest g = o.after.get(t);
                int minute = (gone + r) * from.size() + t;
                boolean passedBy = (plan.get(r) >> t) % 2 == 1;
                while (!passedBy && minute <= g.warm && g.has < g.want && o.left > g.leaves()) {
                    o.left--;
                    g.has++;
                    o.taken.add(new int[] {t, minute});
                }
            }
        }
        return o;
    }

    private Outcome run(List<Guest> from, int points) {
        return outcome(from, lumps, gone, Collections.nCopies(rounds - gone, points));
    }

    private long answer(Outcome o, int what) {
        if (what == 0) {
            return o.left;
        }
        if (what == 1) {
            return Long.bitCount(o.sweet());
        }
        if (what == 2) {
            return o.sweet();
        }
        if (what == 3) {
            return o.taken.isEmpty() ? NONE : o.taken.get(o.taken.size() - 1)[1];
        }
        return table(what - 10) ? o.by(what - 10) : NONE;
    }

    private boolean table(int t) {
        return t >= 0 && t < tables.size();
    }

    private boolean points(int set) {
        return set >= 0 && set < 1 << tables.size();
    }

    private static boolean question(int what) {
        return what >= 0 && what <= 3 || what >= 10 && what <= 17;
    }

    private long met(LongSupplier call, boolean isLong) {
        try {
            fault = 0;
            return call.getAsLong();
        } catch (NullPointerException e) {
            fault = 1;
        } catch (ClassCastException | ArrayStoreException e) {
            fault = 2;
        } catch (IndexOutOfBoundsException e) {
            fault = 3;
        } catch (NegativeArraySizeException e) {
            fault = 4;
        }
        return isLong ? LOST : -10 - fault;
    }

    private int[] cells(int k, int lane, int i, int n) {
        int[] read;
        if (lane == 0) {
            byte[] row = (byte[]) rows[k];
            row.getClass();
            byte[] part = new byte[Math.min(n, ROOM)];
            System.arraycopy(row, i, part, 0, n);
            read = new int[n];
            for (int c = 0; c < n; c++) {
                read[c] = part[c];
            }
        } else if (lane == 1) {
            short[] row = (short[]) rows[k];
            row.getClass();
            short[] part = new short[Math.min(n, ROOM)];
            System.arraycopy(row, i, part, 0, n);
            read = new int[n];
            for (int c = 0; c < n; c++) {
                read[c] = part[c];
            }
        } else {
            int[] row = (int[]) rows[k];
            row.getClass();
            read = new int[Math.min(n, ROOM)];
            System.arraycopy(row, i, read, 0, n);
        }
        return read;
    }

    public long hall(int sheet, int lane, int i, int n) {
        return met(() -> {
            if (sheet < 0 || sheet > 3) {
                return UNKNOWN;
            }
            if (lane < 0 || lane > 2) {
                return OUTSIDE;
            }
            StringBuilder text = new StringBuilder();
            for (int c : cells(sheet, lane, i, n)) {
                text.append(c >= 0 && c < 128 ? (char) c : '?');
            }
            int first = firstFault(text.toString());
            return first >= 0 ? -100 - first : furnish(text.toString());
        }, false);
    }

    /** The least beginning of a text with which none goes on tells the place. */
    private static int firstFault(String text) {
        for (int n = 0; n <= text.length(); n++) {
            Matcher m = TEXT.matcher(text.substring(0, n));
            if (!m.matches() && !m.hitEnd()) {
                return n - 1;
            }
        }
        return TEXT.matcher(text).matches() ? -1 : text.length();
    }

    private long furnish(String text) {
        String[] parts = text.split(";");
        lumps = Integer.parseInt(parts[0].substring(1, 3));
        rounds = Integer.parseInt(parts[0].substring(3));
        gone = 0;
        tables = new ArrayList<>();
        readings.clear();
        for (int t = 1; t < parts.length; t++) {
            Guest g = made("gdc".indexOf(parts[t].charAt(0)));
            g.rank = Integer.parseInt(parts[t].substring(1, 2));
            g.want = Integer.parseInt(parts[t].substring(2, 3));
            g.warm = Integer.parseInt(parts[t].substring(3));
            tables.add(g);
        }
        return tables.size();
    }

    public long ofTable(int t, int what) {
        if (!table(t)) {
            return UNKNOWN;
        }
        Guest g = tables.get(t);
        int[] all = {kind(g), g.rank, g.want, g.warm, g.leaves(), g.has};
        return what < 0 || what > 5 ? OUTSIDE : all[what];
    }

    public long bow(int t, int v) {
        if (!table(t)) {
            return UNKNOWN;
        }
        if (v < 0 || v > 9) {
            return OUTSIDE;
        }
        int was = tables.get(t).rank;
        tables.get(t).rank = v;
        return was;
    }

    public long heat(int t, int v) {
        if (!table(t)) {
            return UNKNOWN;
        }
        if (v < 0 || v > 39) {
            return OUTSIDE;
        }
        int was = tables.get(t).warm;
        tables.get(t).warm = v;
        return was;
    }

    public long load(int v) {
        if (v < 0 || v > 36) {
            return OUTSIDE;
        }
        if (tables.isEmpty()) {
            return STATE;
        }
        int was = lumps;
        lumps = v;
        return was;
    }

    public long sweet() {
        if (tables.isEmpty()) {
            return STATE;
        }
        return outcome(tables, lumps, gone, List.of()).sweet();
    }

    public long go(int points) {
        if (tables.isEmpty()) {
            return STATE;
        }
        if (!points(points)) {
            return OUTSIDE;
        }
        if (gone == rounds) {
            return STATE;
        }
        Outcome o = outcome(tables, lumps, gone, List.of(points));
        tables = o.after;
        lumps = o.left;
        gone++;
        return o.taken.size();
    }

    public long clear() {
        if (tables.isEmpty()) {
            return STATE;
        }
        int had = tables.stream().mapToInt(g -> g.has).sum();
        tables.forEach(g -> g.has = 0);
        lumps += had;
        gone = 0;
        return had;
    }

    public long run(int points, int what) {
        if (tables.isEmpty()) {
            return STATE;
        }
        if (!points(points) || !question(what)) {
            return OUTSIDE;
        }
        return answer(run(tables, points), what);
    }

    public long lump(int points, int k, int what) {
        if (tables.isEmpty()) {
            return STATE;
        }
        if (!points(points) || k < 0 || k > 35 || what < 0 || what > 1) {
            return OUTSIDE;
        }
        List<int[]> taken = run(tables, points).taken;
        return k < taken.size() ? taken.get(k)[what] : NONE;
    }

    public long plan(int sheet, int lane, int i, int n, int what) {
        return met(() -> {
            if (sheet < 0 || sheet > 3) {
                return UNKNOWN;
            }
            if (lane < 0 || lane > 2 || n < 0 || n > 4 || !question(what)) {
                return OUTSIDE;
            }
            if (tables.isEmpty()) {
                return STATE;
            }
            List<Integer> plan = new ArrayList<>();
            for (int c : cells(sheet, lane, i, n)) {
                plan.add(c);
            }
            if (!plan.stream().allMatch(this::points)) {
                return OUTSIDE;
            }
            return n > rounds - gone ? STATE : answer(outcome(tables, lumps, gone, plan), what);
        }, false);
    }

    public long best(int what) {
        if (what < 0 || what > 1) {
            return OUTSIDE;
        }
        if (tables.isEmpty()) {
            return STATE;
        }
        List<long[]> all = new ArrayList<>();
        for (int p = 0; points(p); p++) {
            long sweet = answer(run(tables, p), 1);
            all.add(new long[] {-sweet, Integer.bitCount(p), p});
        }
        all.sort((a, b) -> java.util.Arrays.compare(a, b));
        return what == 0 ? all.get(0)[2] : -all.get(0)[0];
    }

    private long fewest(long who) {
        for (int v = 0; v <= 36; v++) {
            Outcome o = outcome(tables, v, gone, Collections.nCopies(rounds - gone, 0));
            if ((o.sweet() | ~who) == -1L) {
                return v;
            }
        }
        return NONE;
    }

    public long enough(int t) {
        return table(t) ? fewest(1L << t) : UNKNOWN;
    }

    public long tea(int what) {
        if (what < 0 || what > 1) {
            return OUTSIDE;
        }
        if (tables.isEmpty()) {
            return STATE;
        }
        long v = fewest((1L << tables.size()) - 1);
        return what == 0 || v == NONE ? v : v / 6 + (v % 6 == 0 ? 0 : 1);
    }

    public long swap(int what) {
        if (what < 0 || what > 2) {
            return OUTSIDE;
        }
        if (tables.isEmpty()) {
            return STATE;
        }
        long without = answer(run(tables, 0), 1);
        List<long[]> better = new ArrayList<>();
        for (int a = 0; a < tables.size(); a++) {
            for (int b = a + 1; b < tables.size(); b++) {
                List<Guest> changed = new ArrayList<>(tables);
                Collections.swap(changed, a, b);
                long sweet = answer(run(changed, 0), 1);
                if (sweet > without) {
                    better.add(new long[] {-sweet, a, b});
                }
            }
        }
        better.sort((a, b) -> java.util.Arrays.compare(a, b));
        return better.isEmpty() ? NONE : Math.abs(better.get(0)[what]);
    }

    public long reading(int t, int points, int v) {
        if (!table(t)) {
            return UNKNOWN;
        }
        if (!points(points) || v < 0 || v > 36) {
            return OUTSIDE;
        }
        if (readings.size() == 8) {
            return FULL;
        }
        readings.add(new int[] {t, points, v});
        return readings.size() - 1;
    }

    public long back(int k) {
        if (k < 0 || k > readings.size()) {
            return OUTSIDE;
        }
        readings.subList(readings.size() - k, readings.size()).clear();
        return readings.size();
    }

    private boolean fits(int t, Guest instead) {
        List<Guest> changed = new ArrayList<>(tables);
        changed.set(t, instead);
        return readings.stream().allMatch(r -> run(changed, r[1]).by(r[0]) == r[2]);
    }

    public long ranks(int t) {
        if (!table(t)) {
            return UNKNOWN;
        }
        long set = 0;
        for (int v = 0; v <= 9; v++) {
            Guest g = made(kind(tables.get(t))).like(tables.get(t));
            g.rank = v;
            set += fits(t, g) ? 1L << v : 0;
        }
        return set;
    }

    public long kinds(int t) {
        if (!table(t)) {
            return UNKNOWN;
        }
        long set = 0;
        for (int v = 0; v <= 2; v++) {
            set += fits(t, made(v).like(tables.get(t))) ? 1L << v : 0;
        }
        return set;
    }

    public long wants(int t) {
        if (!table(t)) {
            return UNKNOWN;
        }
        long set = 0;
        for (int v = 0; v <= 9; v++) {
            Guest g = made(kind(tables.get(t))).like(tables.get(t));
            g.want = v;
            set += fits(t, g) ? 1L << v : 0;
        }
        return set;
    }

    public long odds(int t, int which) {
        if (!table(t) || which < 0 || which > 1) {
            return LOST;
        }
        long by = 0;
        for (int p = 0; points(p); p++) {
            by += run(tables, p).sweet() >> t & 1;
        }
        long all = 1L << tables.size();
        long common = BigInteger.valueOf(by).gcd(BigInteger.valueOf(all)).longValue();
        return (which == 0 ? by : all) / common;
    }

    public long sheet(int k, int lane, int n) {
        return met(() -> {
            if (k < 0 || k > 3) {
                return UNKNOWN;
            }
            if (lane < 0 || lane > 2 || n > 60) {
                return OUTSIDE;
            }
            rows[k] = lane == 0 ? new byte[n] : lane == 1 ? new short[n] : (Object) new int[n];
            return 1;
        }, false);
    }

    public long lose(int k) {
        if (k < 0 || k > 3) {
            return UNKNOWN;
        }
        boolean had = rows[k] != null;
        rows[k] = null;
        return had ? 1 : 0;
    }

    public long put(int k, int i, int v) {
        return met(() -> {
            if (k < 0 || k > 3) {
                return UNKNOWN;
            }
            if (rows[k] instanceof byte[] row) {
                row[i] = (byte) v;
            } else if (rows[k] instanceof short[] row) {
                row[i] = (short) v;
            } else {
                ((int[]) rows[k])[i] = v;
            }
            return 1;
        }, false);
    }

    public long cell(int k, int i, int lane) {
        return met(() -> {
            if (k < 0 || k > 3 || lane < 0 || lane > 2) {
                return LOST;
            }
            return lane == 0 ? ((byte[]) rows[k])[i] : lane == 1 ? ((short[]) rows[k])[i]
                : ((int[]) rows[k])[i];
        }, true);
    }

    public long copy(int k, int i, int other, int j, int n) {
        return met(() -> {
            if (k < 0 || k > 3 || other < 0 || other > 3) {
                return UNKNOWN;
            }
            System.arraycopy(rows[k], i, rows[other], j, n);
            return n;
        }, false);
    }

    public long tell(int t) {
        return table(t) ? tables.get(t).told(this) : UNKNOWN;
    }

    public long pour(int t) {
        return table(t) ? tables.get(t).poured(this, t) : UNKNOWN;
    }

    public long as(int t, int kind) {
        return met(() -> {
            if (!table(t)) {
                return UNKNOWN;
            }
            if (kind < 0 || kind > 2) {
                return OUTSIDE;
            }
            Object taken = kind == 0 ? tables.get(t)
                : kind == 1 ? (Duke) tables.get(t) : (Child) tables.get(t);
            return taken == null ? 0 : 1;
        }, false);
    }

    public long trace() {
        return trace;
    }

    public long fault() {
        return fault;
    }

    public long many(int what) {
        int[] all = {tables.size(), lumps, rounds, gone, readings.size()};
        return what < 0 || what > 4 ? OUTSIDE : all[what];
    }
}
