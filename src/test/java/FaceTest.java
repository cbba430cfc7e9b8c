import java.lang.reflect.Constructor;
import java.lang.reflect.Field;
import java.lang.reflect.Method;
import java.lang.reflect.Modifier;
import java.util.Arrays;
import java.util.TreeSet;

/** The class shows the face of the document, and nothing else. */
public final class FaceTest {
    private static final String[] FACE = {
        "boolean contact(int, boolean) throws IllegalStateException",
        "boolean cutAfter(int)",
        "boolean fail(int, boolean)",
        "boolean has(int, int)",
        "boolean paint(int, int) throws IllegalStateException",
        "boolean release(int) throws IllegalStateException",
        "boolean show() throws IllegalStateException",
        "boolean sound(int, int, int) throws IllegalStateException",
        "boolean spoil(int, int)",
        "boolean start()",
        "int find(int, int, int)",
        "int free(int)",
        "int freeze(int, int) throws IllegalStateException",
        "int frozen(int, boolean)",
        "int kept(int, boolean)",
        "int now()",
        "int outContacts()",
        "int outRow(int)",
        "int outSound(int, int)",
        "int outSource(int)",
        "int replay(int, int)",
        "int second(int) throws IllegalStateException, IllegalArgumentException",
        "int sentence(int, long) throws IllegalStateException",
        "int unreadable(int)",
        "long outSentence(int)"
    };

    public static void main(String[] args) {
        Check.runCases(FaceTest.class);
    }

    static void methods() {
        TreeSet<String> due = new TreeSet<>(Arrays.asList(FACE));
        TreeSet<String> seen = new TreeSet<>();
        for (Method method : VoyageKeeper.class.getDeclaredMethods()) {
            if (!Modifier.isPrivate(method.getModifiers())) {
                seen.add(told(method));
            }
        }
        Check.yes("the methods are " + seen, seen.equals(due));
    }

    static void noPrivateMethodBearsThePublicNames() {
        TreeSet<String> names = new TreeSet<>();
        for (Method method : VoyageKeeper.class.getMethods()) {
            names.add(method.getName());
        }
        for (Method method : VoyageKeeper.class.getDeclaredMethods()) {
            boolean isPrivate = Modifier.isPrivate(method.getModifiers());
            Check.no(method.getName(), isPrivate && names.contains(method.getName()));
        }
    }

    static void fields() {
        for (Field field : VoyageKeeper.class.getDeclaredFields()) {
            boolean isConstant = field.getName().equals("NONE");
            Check.yes(field.getName(), isConstant != Modifier.isPrivate(field.getModifiers()));
        }
    }

    static void constantIsPublic() throws NoSuchFieldException {
        int modifiers = VoyageKeeper.class.getField("NONE").getModifiers();
        Check.yes("static", Modifier.isStatic(modifiers));
        Check.yes("final", Modifier.isFinal(modifiers));
    }

    static void constructors() {
        Constructor<?>[] constructors = VoyageKeeper.class.getDeclaredConstructors();
        Check.due("constructors", constructors.length, 1);
        Check.yes("public", Modifier.isPublic(constructors[0].getModifiers()));
        Check.due("its parameters", constructors[0].getParameterCount(), 0);
    }

    static void classIsPublicAndFinal() {
        Check.yes("public", Modifier.isPublic(VoyageKeeper.class.getModifiers()));
        Check.yes("final", Modifier.isFinal(VoyageKeeper.class.getModifiers()));
    }

    private static String told(Method method) {
        String text = method.getReturnType().getSimpleName() + " " + method.getName()
            + "(" + names(method.getParameterTypes()) + ")";
        Class<?>[] thrown = method.getExceptionTypes();
        return thrown.length == 0 ? text : text + " throws " + names(thrown);
    }

    private static String names(Class<?>[] types) {
        StringBuilder text = new StringBuilder();
        for (Class<?> type : types) {
            text.append(text.length() == 0 ? "" : ", ").append(type.getSimpleName());
        }
        return text.toString();
    }
}
