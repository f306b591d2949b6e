import java.lang.reflect.Constructor;
import java.lang.reflect.Field;
import java.lang.reflect.Method;
import java.lang.reflect.Modifier;
import java.util.Set;
import java.util.TreeSet;

/** The public face is the document's, and nothing else of the class can be seen from outside. */
public final class FaceTest {
    private static final String[] CONSTANTS = {"BAD", "NO_DISK", "NO_PARTITION", "BAD_VOLUME", "BAD_PATH", "ABSENT",
        "IS_DIRECTORY", "NOT_DIRECTORY", "BROKEN", "BAD_SETTINGS", "BAD_HEADER", "NO_ROOM", "DEEP", "MANY"};

    public static void main(String[] args) throws ReflectiveOperationException {
        Due.due("public and final", ChainLoader.class.getModifiers(), Modifier.PUBLIC | Modifier.FINAL);
        for (int k = 0; k < CONSTANTS.length; k++) {
            Due.due(CONSTANTS[k], ChainLoader.class.getField(CONSTANTS[k]).getInt(null), -1 - k);
        }
        Set<String> want = new TreeSet<>(Set.of("boolean poke int long int", "int peek int", "int volume", "boolean type char",
            "int scrap", "int size", "int read int", "long list int", "int survey", "int boot", "int memory int", "int entry",
            "constructor"));
        for (String name : CONSTANTS) {
            want.add("constant int " + name);
        }
        Set<String> got = visible();
        System.out.println(got.equals(want) ? "the face is the document's" : "due is " + want + ", the face is " + got);
        Due.due("the face", got.equals(want), true);
        Due.end();
    }

    private static Set<String> visible() {
        Set<String> members = new TreeSet<>();
        for (Method method : ChainLoader.class.getDeclaredMethods()) {
            if (!Modifier.isPrivate(method.getModifiers()) && !method.isSynthetic()) {
                members.add(method.getReturnType() + " " + method.getName() + parameters(method.getParameterTypes()));
            }
        }
        for (Constructor<?> constructor : ChainLoader.class.getDeclaredConstructors()) {
            members.add("constructor" + parameters(constructor.getParameterTypes()));
        }
        for (Field field : ChainLoader.class.getDeclaredFields()) {
            if (!Modifier.isPrivate(field.getModifiers()) && !field.isSynthetic()) {
                members.add("constant " + field.getType() + " " + field.getName());
            }
        }
        return members;
    }

    private static String parameters(Class<?>[] types) {
        StringBuilder text = new StringBuilder();
        for (Class<?> type : types) {
            text.append(' ').append(type);
        }
        return text.toString();
    }
}
