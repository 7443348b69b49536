import java.lang.reflect.InvocationTargetException;
import java.lang.reflect.Method;
import java.util.HashMap;
import java.util.Map;
import java.util.Set;

/** Calls told in words, "run 0 17 = NONE": the name, the numbers, the answer that is due. */
final class Told {
    /** fault() behind a call that names no FAULTS is what it was. */
    static final int STAYS = -1;
    private static final Set<String> NAME_FAULTS =
        Set.of("hall", "plan", "sheet", "put", "cell", "copy", "as");
    private static final Set<String> CHANGE = Set.of("hall", "bow", "heat", "load", "go", "clear",
        "reading", "back", "sheet", "lose", "put", "copy", "tell", "pour");
    private static final Map<String, Long> WORDS = new HashMap<>();
    private static final Map<String, Method> METHODS = new HashMap<>();

    static {
        String[] words = {"UNKNOWN", "OUTSIDE", "STATE", "FULL", "NONE", "NULL", "CAST", "INDEX", "SIZE"};
        int[] numbers = {-1, -2, -3, -4, -9, -11, -12, -13, -14};
        for (int w = 0; w < words.length; w++) {
            WORDS.put(words[w], (long) numbers[w]);
        }
        WORDS.put("LOST", SugarLoop.LOST);
        WORDS.put("least", (long) Integer.MIN_VALUE);
        WORDS.put("most", (long) Integer.MAX_VALUE);
        for (Method m : SugarLoop.class.getDeclaredMethods()) {
            if (java.lang.reflect.Modifier.isPublic(m.getModifiers())) {
                METHODS.put(m.getName(), m);
            }
        }
    }

    final String line;
    private final String name;
    private final Object[] numbers;
    private final String word;

    Told(String line) {
        this.line = line;
        String[] sides = line.split(" = ");
        String[] parts = sides[0].split(" ");
        name = parts[0];
        numbers = new Object[parts.length - 1];
        for (int p = 1; p < parts.length; p++) {
            numbers[p - 1] = (int) number(parts[p]);
        }
        word = sides.length == 1 ? "0" : sides[1];
    }

    private static long number(String word) {
        return WORDS.containsKey(word) ? WORDS.get(word) : Long.parseLong(word);
    }

    static Iterable<Method> methods() {
        return METHODS.values();
    }

    private boolean answersLong() {
        return METHODS.get(name).getReturnType() == long.class;
    }

    boolean namesFaults() {
        return NAME_FAULTS.contains(name);
    }

    boolean mayChange() {
        return CHANGE.contains(name);
    }

    long due() {
        long due = number(word);
        return answersLong() && WORDS.containsKey(word) ? SugarLoop.LOST : due;
    }

    /** What fault() tells behind a call that answers as is due. */
    int dueFault() {
        if (!namesFaults()) {
            return STAYS;
        }
        long due = WORDS.getOrDefault(word, 0L);
        return due <= -11 && due >= -14 ? (int) (-10 - due) : 0;
    }

    long on(SugarLoop x) {
        try {
            return ((Number) METHODS.get(name).invoke(x, numbers)).longValue();
        } catch (InvocationTargetException e) {
            throw new IllegalStateException(line + " threw " + e.getCause());
        } catch (IllegalAccessException e) {
            throw new IllegalStateException(line, e);
        }
    }
}
