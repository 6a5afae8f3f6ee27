import java.lang.reflect.Constructor;
import java.lang.reflect.Field;
import java.lang.reflect.Member;
import java.lang.reflect.Method;
import java.lang.reflect.Modifier;
import java.util.ArrayList;
import java.util.Arrays;
import java.util.List;
import java.util.Set;
import java.util.TreeSet;

/** The public face, to the letter: the document's constants, constructor and methods, and no more. */
public final class FaceTest {
    private static final String INDEX = " throws IndexOutOfBoundsException";
    private static final String ARGUMENT = " throws IllegalArgumentException";
    private static final String STATE = " throws IllegalStateException";
    private static final String ARGUMENT_STATE = ARGUMENT + ", IllegalStateException";
    private static final String INDEX_ARGUMENT = INDEX + ", IllegalArgumentException";
    private static final String INDEX_STATE = INDEX + ", IllegalStateException";
    private static final String[] FACE = {
        "int add(int)" + ARGUMENT_STATE, "int echo(int, int, int)" + ARGUMENT_STATE,
        "int change(int, int)" + INDEX_ARGUMENT, "int drop()" + STATE, "int empty()",
        "int setDelay(int)" + ARGUMENT, "int setSpeed(int)" + ARGUMENT, "int setWeight(int, int)" + ARGUMENT,
        "boolean turnKind(int)" + ARGUMENT_STATE, "int send()" + STATE, "int tamper(int, int)" + INDEX_ARGUMENT,
        "int samples()", "int sampleAt(int)" + INDEX, "int blocks()", "int delay()", "int speed()", "int allowed()",
        "int firstWeight(int)" + ARGUMENT, "double loudness()", "int weightAt(int, int)" + INDEX_ARGUMENT,
        "int weightByCounting(int, int)" + INDEX_ARGUMENT, "int foretold(int, int)" + INDEX_ARGUMENT,
        "int leftOver(int, int)" + INDEX_ARGUMENT, "int sumOf(int)" + ARGUMENT, "int sumWithDelay(int)" + ARGUMENT,
        "int bestDelay()", "int bestSpeed()", "int bestFirst(int)" + ARGUMENT,
        "int bitsWith(int, int, int)" + INDEX_ARGUMENT, "int bestParameter(int, int)" + INDEX_ARGUMENT,
        "int bestKind(int)" + INDEX, "int whyBest(int)" + INDEX, "int bits()", "int bitsByKinds()",
        "int blocksWith(int)" + ARGUMENT, "int bitsIfOnly(int)" + ARGUMENT, "int told()",
        "int letterKind(int)" + INDEX, "int letterParameter(int)" + INDEX, "int letterLeft(int)" + INDEX,
        "int letterBits()", "boolean letterBit(int)" + INDEX, "int heard(int)" + INDEX,
        "int heardByBits(int)" + INDEX, "int unlike()", "int firstUnlike()", "int harm(int)" + INDEX, "int worst()",
        "int sent()", "int keep(int)" + INDEX, "int goBack(int)" + INDEX_STATE, "int append(int)" + ARGUMENT_STATE,
        "int clearText()", "int firstError()", "int doWorks()" + STATE, "int undo()" + STATE, "long digest()"};

    public static void main(String[] args) throws Exception {
        methods();
        constants();
        members();
        Checks.end("FaceTest");
    }

    private static String told(Method method) {
        StringBuilder told = new StringBuilder(method.getReturnType().getName()).append(' ').append(method.getName());
        told.append(names(method.getParameterTypes(), "(", ")"));
        if (method.getExceptionTypes().length > 0) {
            told.append(names(method.getExceptionTypes(), " throws ", ""));
        }
        return told.toString();
    }

    private static String names(Class<?>[] classes, String before, String behind) {
        List<String> names = new ArrayList<>();
        for (Class<?> one : classes) {
            names.add(one.getSimpleName());
        }
        return before + String.join(", ", names) + behind;
    }

    private static void methods() {
        Set<String> face = new TreeSet<>();
        Set<String> names = new TreeSet<>();
        for (Method method : CaveEchoes.class.getDeclaredMethods()) {
            if (!Modifier.isPrivate(method.getModifiers())) {
                Checks.due(method + " is public alone", method.getModifiers(), Modifier.PUBLIC);
                face.add(told(method));
                names.add(method.getName());
            }
        }
        Checks.due("the face", face, new TreeSet<>(Arrays.asList(FACE)));
        for (Method method : CaveEchoes.class.getDeclaredMethods()) {
            if (Modifier.isPrivate(method.getModifiers())) {
                Checks.due(method + " bears a public name", names.contains(method.getName()), false);
            }
        }
        for (Class<?> inside : CaveEchoes.class.getDeclaredClasses()) {
            for (Method method : inside.getDeclaredMethods()) {
                Checks.due(method + " bears a public name", names.contains(method.getName()), false);
            }
        }
    }

    private static void constants() throws Exception {
        String[] names = {"NONE", "SILENCE", "LAST", "SLOPE", "DELAY", "WEIGHED"};
        for (int i = 0; i < names.length; i++) {
            Field field = CaveEchoes.class.getField(names[i]);
            Checks.due(names[i], field.getInt(null), i - 1);
            Checks.due(names[i] + " type", field.getType(), int.class);
            int modifiers = Modifier.PUBLIC | Modifier.STATIC | Modifier.FINAL;
            Checks.due(names[i] + " modifiers", field.getModifiers(), modifiers);
        }
        Checks.due("public fields", CaveEchoes.class.getFields().length, names.length);
    }

    private static void members() {
        Checks.due("the class", CaveEchoes.class.getModifiers(), Modifier.PUBLIC | Modifier.FINAL);
        Checks.due("constructors", CaveEchoes.class.getDeclaredConstructors().length, 1);
        for (Constructor<?> constructor : CaveEchoes.class.getDeclaredConstructors()) {
            Checks.due("the constructor", constructor.toString(), "public CaveEchoes()");
        }
        List<Member> fields = new ArrayList<>(Arrays.asList(CaveEchoes.class.getDeclaredFields()));
        for (Member field : fields) {
            boolean hidden = Modifier.isPrivate(field.getModifiers()) || Modifier.isPublic(field.getModifiers());
            Checks.due(field.getName() + " is public or private", hidden, true);
            boolean shared = Modifier.isStatic(field.getModifiers()) && !Modifier.isFinal(field.getModifiers());
            Checks.due(field.getName() + " is static state", shared, false);
        }
        for (Class<?> inside : CaveEchoes.class.getDeclaredClasses()) {
            boolean open = Modifier.isPublic(inside.getModifiers()) || Modifier.isProtected(inside.getModifiers());
            Checks.due(inside + " is open", open, false);
        }
    }
}
