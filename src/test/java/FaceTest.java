import java.lang.reflect.Constructor;
import java.lang.reflect.Field;
import java.lang.reflect.Member;
import java.lang.reflect.Method;
import java.lang.reflect.Modifier;
import java.util.Arrays;
import java.util.TreeSet;

/** The class has the document's face, its values and types, and nothing else that can be seen. */
public final class FaceTest {
    private static final String METHODS = "hall(IIII)I ofTable(II)I bow(II)I heat(II)I load(I)I "
        + "sweet()I go(I)I clear()I run(II)I lump(III)I plan(IIIII)I best(I)I enough(I)I tea(I)I "
        + "swap(I)I reading(III)I back(I)I ranks(I)I kinds(I)I wants(I)I odds(II)J sheet(III)I "
        + "lose(I)I put(III)I cell(III)J copy(IIIII)I tell(I)I pour(I)I as(II)I trace()I fault()I "
        + "many(I)I";
    private static final Due DUE = new Due("FaceTest");

    public static void main(String[] args) throws Exception {
        constants();
        TreeSet<String> want = new TreeSet<>(Arrays.asList(METHODS.split(" ")));
        TreeSet<String> got = new TreeSet<>();
        for (Method m : SugarLoop.class.getDeclaredMethods()) {
            if (Modifier.isPublic(m.getModifiers())) {
                got.add(told(m));
                DUE.holds(m + " is no static one", !Modifier.isStatic(m.getModifiers()));
            } else {
                hidden(m);
                DUE.holds(m + " has no public name", !METHODS.contains(m.getName() + "("));
            }
        }
        DUE.holds("the public methods are " + got, got.equals(want));
        DUE.is("constructors", SugarLoop.class.getDeclaredConstructors().length, 1);
        Constructor<SugarLoop> made = SugarLoop.class.getConstructor();
        DUE.holds("the constructor is public", Modifier.isPublic(made.getModifiers()));
        DUE.holds("the class is final", Modifier.isFinal(SugarLoop.class.getModifiers()));
        for (Class<?> inside : SugarLoop.class.getDeclaredClasses()) {
            DUE.holds(inside + " is static", Modifier.isStatic(inside.getModifiers()));
            DUE.holds(inside + " is private", Modifier.isPrivate(inside.getModifiers()));
        }
        DUE.end();
    }

    private static void constants() {
        DUE.is("UNKNOWN", SugarLoop.UNKNOWN, -1);
        DUE.is("OUTSIDE", SugarLoop.OUTSIDE, -2);
        DUE.is("STATE", SugarLoop.STATE, -3);
        DUE.is("FULL", SugarLoop.FULL, -4);
        DUE.is("NONE", SugarLoop.NONE, -9);
        DUE.is("LOST", SugarLoop.LOST, Long.MIN_VALUE);
        TreeSet<String> names = new TreeSet<>();
        for (Field f : SugarLoop.class.getDeclaredFields()) {
            if (Modifier.isPublic(f.getModifiers())) {
                names.add(f.getType() + " " + f.getName());
            } else {
                hidden(f);
            }
        }
        DUE.holds("the constants are " + names, names.equals(new TreeSet<>(Arrays.asList(
            "int UNKNOWN", "int OUTSIDE", "int STATE", "int FULL", "int NONE", "long LOST"))));
    }

    private static void hidden(Member m) {
        DUE.holds(m + " is private", Modifier.isPrivate(m.getModifiers()));
    }

    private static String told(Method m) {
        StringBuilder text = new StringBuilder(m.getName()).append('(');
        for (Class<?> type : m.getParameterTypes()) {
            text.append(type == int.class ? "I" : type.getName());
        }
        text.append(')');
        text.append(m.getReturnType() == int.class ? "I"
            : m.getReturnType() == long.class ? "J" : m.getReturnType().getName());
        return text.toString();
    }
}
