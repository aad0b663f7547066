import java.lang.reflect.Constructor;
import java.lang.reflect.Field;
import java.lang.reflect.Member;
import java.lang.reflect.Method;
import java.lang.reflect.Modifier;
import java.util.Arrays;
import java.util.Set;
import java.util.TreeSet;

/** The face of the class is the document's, and nothing else of the class is seen. */
final class FaceTest {
    private static final String INDEX = "IndexOutOfBoundsException";
    private static final String ARGUMENT = "IllegalArgumentException";
    private static final String STATE = "IllegalStateException";

    private static final String[] FACE = {
        face("void", "setBought", 3, INDEX, ARGUMENT, STATE),
        face("int", "addLine", 4, INDEX, ARGUMENT, STATE),
        face("int", "addOperation", 4, INDEX, ARGUMENT, STATE),
        face("int", "setStore", 2, INDEX, ARGUMENT),
        face("int", "setQueue", 2, INDEX, ARGUMENT),
        face("int", "addMachine", 6, INDEX, ARGUMENT, STATE),
        face("int", "addPerson", 3, ARGUMENT, STATE),
        face("int", "setLevel", 3, INDEX, ARGUMENT),
        face("int", "buy", 2, INDEX, ARGUMENT, STATE),
        face("int", "late", 2, INDEX, ARGUMENT, STATE),
        face("int", "make", 3, INDEX, ARGUMENT, STATE),
        "boolean rank(int, int, boolean) IndexOutOfBoundsException IllegalArgumentException IllegalStateException",
        face("int", "split", 2, INDEX, ARGUMENT, STATE),
        face("int", "join", 2, INDEX, ARGUMENT, STATE),
        face("int", "recall", 1, INDEX),
        face("int", "order", 3, INDEX, ARGUMENT, STATE),
        face("int", "promise", 1, INDEX, STATE),
        face("int", "ship", 1, INDEX, STATE),
        "boolean stand(boolean)",
        face("int", "run", 1, ARGUMENT, STATE),
        face("int", "hour", 0),
        face("int", "batches", 0),
        face("int", "batch", 2, INDEX, ARGUMENT),
        face("int", "parent", 2, INDEX, ARGUMENT),
        face("int", "origin", 2, INDEX, ARGUMENT),
        face("int", "machine", 2, INDEX, ARGUMENT),
        face("int", "level", 2, INDEX),
        face("int", "machineOf", 1, INDEX),
        face("int", "store", 2, INDEX, ARGUMENT),
        face("int", "queue", 1, INDEX),
        face("int", "queued", 2, INDEX, ARGUMENT),
        face("int", "told", 2, INDEX, ARGUMENT),
        face("int", "why", 2, INDEX),
        face("int", "latest", 2, INDEX, ARGUMENT, STATE),
        face("int", "earliest", 1, INDEX, STATE),
        face("int", "ledger", 1, ARGUMENT),
    };

    public static void main(String[] args) {
        publicMethodsAreTheDocuments();
        nothingElseIsSeen();
        noOtherMethodBearsAPublicName();
        fieldsKeepToTheRules();
        Checks.end("FaceTest");
    }

    private static String face(String answer, String name, int ints, String... exceptions) {
        StringBuilder text = new StringBuilder(answer).append(' ').append(name).append('(');
        for (int i = 0; i < ints; i++) {
            text.append(i == 0 ? "int" : ", int");
        }
        text.append(')');
        for (String exception : exceptions) {
            text.append(' ').append(exception);
        }
        return text.toString();
    }

    private static void publicMethodsAreTheDocuments() {
        Set<String> found = new TreeSet<>();
        for (Method method : Millrace.class.getDeclaredMethods()) {
            if (Modifier.isPublic(method.getModifiers())) {
                StringBuilder text = new StringBuilder(method.getReturnType().getSimpleName());
                text.append(' ').append(method.getName()).append('(');
                for (Class<?> type : method.getParameterTypes()) {
                    text.append(text.charAt(text.length() - 1) == '(' ? "" : ", ").append(type.getSimpleName());
                }
                text.append(')');
                for (Class<?> exception : method.getExceptionTypes()) {
                    text.append(' ').append(exception.getSimpleName());
                }
                found.add(text.toString());
            }
        }
        Checks.equal("the public methods", found.toString(), new TreeSet<>(Arrays.asList(FACE)).toString());
        Checks.isTrue("the class is public and final", Modifier.isPublic(Millrace.class.getModifiers())
            && Modifier.isFinal(Millrace.class.getModifiers()));
    }

    private static void nothingElseIsSeen() {
        Constructor<?>[] constructors = Millrace.class.getDeclaredConstructors();
        Checks.equal("constructors", constructors.length, 1);
        Checks.isTrue("it is public and takes nothing", Modifier.isPublic(constructors[0].getModifiers())
            && constructors[0].getParameterCount() == 0);
        for (Field field : Millrace.class.getDeclaredFields()) {
            Checks.isTrue("field " + field.getName() + " is private", isPrivate(field));
        }
        for (Method method : Millrace.class.getDeclaredMethods()) {
            Checks.isTrue("method " + method.getName() + " is public or private",
                Modifier.isPublic(method.getModifiers()) || isPrivate(method));
        }
        for (Class<?> inner : Millrace.class.getDeclaredClasses()) {
            Checks.isTrue(inner.getName() + " is private and static", Modifier.isPrivate(inner.getModifiers())
                && Modifier.isStatic(inner.getModifiers()));
        }
    }

    private static boolean isPrivate(Member member) {
        return Modifier.isPrivate(member.getModifiers());
    }

    private static void noOtherMethodBearsAPublicName() {
        Set<String> names = new TreeSet<>();
        for (Method method : Millrace.class.getDeclaredMethods()) {
            if (Modifier.isPublic(method.getModifiers())) {
                names.add(method.getName());
            }
        }
        for (Method method : Millrace.class.getDeclaredMethods()) {
            Checks.isTrue(method + " has a name of its own",
                Modifier.isPublic(method.getModifiers()) || !names.contains(method.getName()));
        }
        for (Class<?> inner : Millrace.class.getDeclaredClasses()) {
            for (Method method : inner.getDeclaredMethods()) {
                Checks.isTrue(method + " has a name of its own", !names.contains(method.getName()));
            }
        }
    }

    private static void fieldsKeepToTheRules() {
        Class<?>[] inner = Millrace.class.getDeclaredClasses();
        Checks.isTrue("at most twelve classes", inner.length + 1 <= 12);
        for (int i = 0; i <= inner.length; i++) {
            Class<?> type = i == 0 ? Millrace.class : inner[i - 1];
            int fields = 0;
            for (Field field : type.getDeclaredFields()) {
                if (!Modifier.isStatic(field.getModifiers())) {
                    fields++;
                }
                Checks.isTrue("a static field is final: " + field,
                    !Modifier.isStatic(field.getModifiers()) || Modifier.isFinal(field.getModifiers()));
            }
            Checks.isTrue(type.getName() + " has at most twenty fields", fields <= 20);
        }
    }
}
