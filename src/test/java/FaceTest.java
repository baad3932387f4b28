import java.lang.reflect.Constructor;
import java.lang.reflect.Field;
import java.lang.reflect.Method;
import java.lang.reflect.Modifier;
import java.util.TreeSet;

/** The class has the members that the document's face lists, and no other that can be seen from outside. */
public final class FaceTest {
    private static final String ARGUMENT = " throws java.lang.IllegalArgumentException";
    private static final String STATE = ",java.lang.IllegalStateException";
    private static final String HEAD = "public %s GraphSearch.%s";
    private static final String[][] METHODS = {
        {"int", "node(int,boolean)" + ARGUMENT + STATE},
        {"int", "move(int,int)" + ARGUMENT + STATE},
        {"boolean", "drop(int)"},
        {"boolean", "change(int,int,boolean)"},
        {"int", "value(int,int)" + ARGUMENT},
        {"int", "best(int,int)" + ARGUMENT},
        {"boolean", "reaches(int,int,int)" + ARGUMENT},
        {"int", "line(int,int,int)" + ARGUMENT},
        {"int", "ties(int,int)" + ARGUMENT},
        {"int", "settled(int,int)" + ARGUMENT},
        {"int", "of(int,int)"},
        {"int", "around(int,int)" + ARGUMENT},
        {"int", "look(int)"},
    };

    public static void main(String[] args) {
        Due.due("the class", "public final", () -> Modifier.toString(GraphSearch.class.getModifiers()));
        Due.due("what it extends", Object.class, GraphSearch.class::getSuperclass);
        methods();
        constructors();
        fields();
        Due.end();
    }

    private static void methods() {
        TreeSet<String> want = new TreeSet<>();
        for (String[] method : METHODS) {
            want.add(String.format(HEAD, method[0], method[1]));
        }
        TreeSet<String> seen = new TreeSet<>();
        TreeSet<String> seenNames = new TreeSet<>();
        TreeSet<String> hiddenNames = new TreeSet<>();
        for (Method method : GraphSearch.class.getDeclaredMethods()) {
            if (Modifier.isPrivate(method.getModifiers())) {
                hiddenNames.add(method.getName());
            } else {
                seen.add(method.toString());
                seenNames.add(method.getName());
            }
        }
        Due.due("the methods", want, () -> seen);
        hiddenNames.retainAll(seenNames);
        Due.due("private methods that bear a public name", new TreeSet<String>(), () -> hiddenNames);
    }

    private static void constructors() {
        TreeSet<String> seen = new TreeSet<>();
        for (Constructor<?> constructor : GraphSearch.class.getDeclaredConstructors()) {
            seen.add(constructor.toString());
        }
        Due.due("the constructors", "[public GraphSearch(int)]", seen::toString);
    }

    private static void fields() {
        TreeSet<String> seen = new TreeSet<>();
        for (Field field : GraphSearch.class.getDeclaredFields()) {
            int modifiers = field.getModifiers();
            if (!Modifier.isPrivate(modifiers)) {
                seen.add(field.toString());
            }
            if (Modifier.isStatic(modifiers)) {
                Due.due(field.getName() + " is final", true, () -> Modifier.isFinal(modifiers));
            }
        }
        Due.due("the fields", "[public static final int GraphSearch.NONE]", seen::toString);
    }
}
