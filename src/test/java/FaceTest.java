import java.lang.reflect.Constructor;
import java.lang.reflect.Field;
import java.lang.reflect.Method;
import java.lang.reflect.Modifier;
import java.util.Arrays;
import java.util.Set;
import java.util.TreeSet;

/** The class has the document's face and shows nothing else. */
public final class FaceTest {
    private static final String[] FACE = {
        "boolean type(char)",
        "int compile(int) IllegalArgumentException",
        "boolean drop(int) IllegalArgumentException",
        "void set(int,int) IllegalArgumentException",
        "void go(long)",
        "void poke(int,int) IllegalArgumentException",
        "int ignore(int,int) IllegalArgumentException IllegalStateException",
        "int ask(int) IllegalArgumentException IllegalStateException",
        "int askAll()",
        "long about(int,int) IllegalArgumentException IllegalStateException",
        "long count(int)",
    };

    public static void main(String[] args) {
        int modifiers = ConditionDesk.class.getModifiers();
        Check.due("public final", Modifier.isPublic(modifiers) && Modifier.isFinal(modifiers), true);
        Set<String> shown = new TreeSet<>();
        Set<String> names = new TreeSet<>();
        for (Method method : ConditionDesk.class.getDeclaredMethods()) {
            if (!Modifier.isPrivate(method.getModifiers())) {
                Check.due(method + " is public", Modifier.isPublic(method.getModifiers()), true);
                shown.add(told(method));
                names.add(method.getName());
            }
        }
        Set<String> want = new TreeSet<>(Arrays.asList(FACE));
        if (!shown.equals(want)) {
            System.out.println("shown: " + shown + ", due: " + want);
        }
        Check.due("the face is the document's", shown.equals(want), true);
        for (Method method : ConditionDesk.class.getDeclaredMethods()) {
            if (Modifier.isPrivate(method.getModifiers())) {
                Check.due(method + " bears a public name", names.contains(method.getName()), false);
            }
        }
        Constructor<?>[] constructors = ConditionDesk.class.getDeclaredConstructors();
        Check.due("constructors", constructors.length, 1);
        Check.due("its parameters", constructors[0].getParameterCount(), 0);
        Check.due("it is public", Modifier.isPublic(constructors[0].getModifiers()), true);
        for (Field field : ConditionDesk.class.getDeclaredFields()) {
            Check.due(field + " is private", Modifier.isPrivate(field.getModifiers()), true);
        }
        Check.end();
    }

    private static String told(Method method) {
        StringBuilder told = new StringBuilder(method.getReturnType().getName());
        told.append(' ').append(method.getName()).append('(');
        String comma = "";
        for (Class<?> type : method.getParameterTypes()) {
            told.append(comma).append(type.getName());
            comma = ",";
        }
        told.append(')');
        for (Class<?> type : method.getExceptionTypes()) {
            told.append(' ').append(type.getSimpleName());
        }
        return told.toString();
    }
}
