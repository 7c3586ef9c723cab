import java.lang.reflect.Constructor;
import java.lang.reflect.Field;
import java.lang.reflect.Method;
import java.lang.reflect.Modifier;
import java.util.Set;
import java.util.TreeSet;

/** The public face, and rules 1 and 5 of LANGUAGE.md as far as the compiled class tells them. */
public final class FaceTest {
    private static final String[] CONSTANTS = {
        "EMPTY", "SYNTAX", "DUPLICATE", "MISSING", "CYCLE", "BLOCKED", "TYPE", "DIVISION", "MATCH", "DEPTH", "FUEL",
        "CANCELLED", "STALE", "FUNCTION", "VALUE"};
    private static final Set<String> METHODS = Set.of(
        "public int type(long,int)", "public boolean set(int,int)", "public boolean remove(int)",
        "public int work(int)", "public boolean cancel(int)", "public int status(int)", "public int value(int)",
        "public int kind(int)", "public int uses(int)", "public int runs(int)", "public int steps()");

    public static void main(String[] args) throws ReflectiveOperationException {
        Calls calls = new Calls();
        int modifiers = CellBook.class.getModifiers();
        calls.due("public final class", Modifier.isPublic(modifiers) && Modifier.isFinal(modifiers), true);
        constants(calls);
        methods(calls);
        classesInside(calls);
        Constructor<?>[] constructors = CellBook.class.getDeclaredConstructors();
        calls.due("constructors", constructors.length, 1);
        calls.due("public CellBook()", constructors[0].toString().equals("public CellBook()"), true);
        calls.end();
    }

    private static void constants(Calls calls) throws ReflectiveOperationException {
        for (int i = 0; i < CONSTANTS.length; i++) {
            Field field = CellBook.class.getField(CONSTANTS[i]);
            calls.due(CONSTANTS[i], field.getInt(null), i);
            String declared = "public static final int CellBook." + CONSTANTS[i];
            calls.due(declared, field.toString().equals(declared), true);
        }
        calls.due("public fields", CellBook.class.getFields().length, CONSTANTS.length);
        for (Field field : CellBook.class.getDeclaredFields()) {
            int modifiers = field.getModifiers();
            calls.due(field + " is public or private",
                Modifier.isPublic(modifiers) || Modifier.isPrivate(modifiers), true);
            calls.due(field + " is final or no static one",
                Modifier.isFinal(modifiers) || !Modifier.isStatic(modifiers), true);
        }
    }

    private static void methods(Calls calls) {
        Set<String> found = new TreeSet<>();
        Set<String> names = new TreeSet<>();
        for (Method method : CellBook.class.getDeclaredMethods()) {
            if (Modifier.isPublic(method.getModifiers())) {
                found.add(method.toString().replace("CellBook.", ""));
                names.add(method.getName());
            }
        }
        calls.due("public methods " + found, found.equals(new TreeSet<>(METHODS)), true);
        for (Method method : CellBook.class.getDeclaredMethods()) {
            int modifiers = method.getModifiers();
            calls.due(method + " is public, or private with another name", Modifier.isPublic(modifiers)
                || Modifier.isPrivate(modifiers) && !names.contains(method.getName()), true);
        }
    }

    private static void classesInside(Calls calls) {
        for (Class<?> inside : CellBook.class.getDeclaredClasses()) {
            int modifiers = inside.getModifiers();
            calls.due(inside + " is static and not seen outside", Modifier.isStatic(modifiers)
                && !Modifier.isPublic(modifiers) && !Modifier.isProtected(modifiers), true);
        }
    }
}
