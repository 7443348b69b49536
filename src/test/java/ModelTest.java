import java.lang.reflect.InvocationTargetException;
import java.lang.reflect.Method;
import java.util.ArrayList;
import java.util.Comparator;
import java.util.List;
import java.util.Random;

/** The same calls, drawn from fixed seeds, on the program and on the model: all answers are alike. */
public final class ModelTest {
    private static final int OBJECTS = 3000, CALLS = 512;
    private static final int[] EDGES = {Integer.MIN_VALUE, -2147483647, -1000, -100, -2, -1, 0, 1, 2, 3,
        4, 5, 7, 8, 9, 10, 17, 18, 31, 35, 36, 37, 39, 40, 59, 60, 61, 255, 256, 70001,
        Integer.MAX_VALUE - 1, Integer.MAX_VALUE};
    private static final Due DUE = new Due("ModelTest");
    private static final List<Method> METHODS = new ArrayList<>();

    private final Random random;
    private final int number;
    private final SugarLoop x = new SugarLoop();
    private final Model model = new Model();
    private int calls = 0;

    private ModelTest(int number) {
        this.number = number;
        random = new Random(number);
    }

    public static void main(String[] args) throws Exception {
        for (Method m : SugarLoop.class.getDeclaredMethods()) {
            if (java.lang.reflect.Modifier.isPublic(m.getModifiers())) {
                METHODS.add(m);
            }
        }
        METHODS.sort(Comparator.comparing(Method::getName));
        DUE.is("methods", METHODS.size(), 32);
        for (int number = 0; number < OBJECTS && DUE.wrong() == 0; number++) {
            new ModelTest(number).play();
        }
        DUE.end();
    }

    private void play() throws Exception {
        if (random.nextInt(20) > 0) {
            furnish();
        }
        while (calls < CALLS && DUE.wrong() == 0) {
            int chance = random.nextInt(200);
            if (chance == 0) {
                furnish();
            } else if (chance < 8) {
                writePlan();
            } else {
                Method m = METHODS.get(random.nextInt(METHODS.size()));
                call(m.getName(), arguments(m));
            }
        }
    }

    private int[] arguments(Method m) {
        int[] values = new int[m.getParameterCount()];
        for (int a = 0; a < values.length; a++) {
            values[a] = random.nextInt(12) == 0 ? EDGES[random.nextInt(EDGES.length)] : likely(m.getName(), a);
        }
        return values;
    }

    /** A value that such a call most often takes. */
    private int likely(String name, int a) {
        int tables = (int) model.many(0);
        int t = random.nextInt(tables + 1);
        int points = random.nextInt(1 << tables);
        switch (name + a) {
            case "ofTable0": case "bow0": case "heat0": case "enough0": case "reading0": case "ranks0":
            case "kinds0": case "wants0": case "odds0": case "tell0": case "pour0": case "as0":
                return t;
            case "go0": case "run0": case "lump0": case "reading1":
                return points;
            case "run1": case "plan4":
                return random.nextBoolean() ? random.nextInt(4) : 10 + random.nextInt(8);
            case "lump1": case "load0":
                return random.nextInt(36);
            case "heat1":
                return random.nextInt(40);
            case "bow1":
                return random.nextInt(10);
            case "back0":
                return random.nextInt(3);
            case "put2": case "sheet2": case "put1": case "cell1": case "copy1": case "copy3": case "hall2":
                return random.nextInt(random.nextBoolean() ? 5 : 61);
            case "hall3":
                return random.nextInt(60);
            default:
                return random.nextInt(5);
            case "reading2":
                return random.nextInt(20) == 0 ? random.nextInt(37) : (int) taken();
        }
    }

    /** Most readings should be so, or no set but the empty one is ever seen. */
    private long taken() {
        return random.nextInt(3) == 0 ? 0 : random.nextInt(4);
    }

    private void furnish() throws Exception {
        StringBuilder text = new StringBuilder("r");
        text.append(two(random.nextInt(37))).append(1 + random.nextInt(4));
        int tables = 2 + random.nextInt(7);
        int warm = random.nextBoolean() ? 40 : 12;
        for (int t = 0; t < tables; t++) {
            text.append(';').append("gdc".charAt(random.nextInt(3))).append(random.nextInt(10));
            text.append(random.nextInt(random.nextBoolean() ? 10 : 5)).append(two(random.nextInt(warm)));
        }
        if (random.nextInt(6) == 0) {
            text.setCharAt(random.nextInt(text.length()), "r0123456789;gdcx".charAt(random.nextInt(16)));
        }
        if (random.nextInt(8) == 0) {
            text.setLength(random.nextInt(text.length() + 1));
        }
        if (random.nextInt(8) == 0) {
            text.append(random.nextBoolean() ? ";g0001" : "7");
        }
        int sheet = random.nextInt(4);
        int lane = random.nextInt(3);
        int ahead = random.nextInt(60 - text.length() + 1);
        call("sheet", sheet, lane, ahead + text.length());
        for (int c = 0; c < text.length(); c++) {
            call("put", sheet, ahead + c, text.charAt(c));
        }
        call("hall", sheet, lane, ahead, text.length());
    }

    private static String two(int v) {
        return v < 10 ? "0" + v : "" + v;
    }

    private void writePlan() throws Exception {
        int sheet = random.nextInt(4);
        int lane = random.nextInt(3);
        int n = random.nextInt(5);
        call("sheet", sheet, lane, n);
        for (int i = 0; i < n; i++) {
            call("put", sheet, i, random.nextInt((1 << (int) model.many(0)) + 1));
        }
        for (int what = 0; what < 18; what++) {
            call("plan", sheet, lane, 0, n, what);
        }
    }

    private void call(String name, int... values) throws Exception {
        if (calls >= CALLS) {
            return;
        }
        calls++;
        StringBuilder told = new StringBuilder(name).append('(');
        Class<?>[] types = new Class<?>[values.length];
        Object[] boxed = new Object[values.length];
        for (int a = 0; a < values.length; a++) {
            types[a] = int.class;
            boxed[a] = values[a];
            told.append(a == 0 ? "" : ", ").append(values[a]);
        }
        told.append(')');
        long want = (Long) Model.class.getMethod(name, types).invoke(model, boxed);
        try {
            Number got = (Number) SugarLoop.class.getMethod(name, types).invoke(x, boxed);
            DUE.is("object " + number + ", call " + calls + ", " + told, got.longValue(), want);
        } catch (InvocationTargetException e) {
            DUE.holds("object " + number + ", call " + calls + ", " + told + ": " + e.getCause(), false);
        }
    }
}
