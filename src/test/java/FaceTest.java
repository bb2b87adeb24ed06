import java.lang.reflect.Constructor;
import java.lang.reflect.Field;
import java.lang.reflect.Member;
import java.lang.reflect.Method;
import java.lang.reflect.Modifier;
import java.util.ArrayList;
import java.util.Arrays;
import java.util.List;
import java.util.TreeSet;

/** The face is the document's, with its throws clauses, and nothing besides. */
public final class FaceTest {
    private static final String INDEX = "IndexOutOfBoundsException";
    private static final String ARGUMENT = "IllegalArgumentException";
    private static final String STATE = "IllegalStateException";

    private static final String[] METHODS = {
        "int write(int, int, int) " + INDEX + " " + ARGUMENT + " " + STATE,
        "int publish(int) " + INDEX + " " + STATE,
        "int setFuel(int, int) " + INDEX + " " + ARGUMENT,
        "int fund(int, int) " + INDEX + " " + ARGUMENT,
        "int setQuota(int, int, int) " + INDEX + " " + ARGUMENT,
        "int setPrice(int, int) " + INDEX + " " + ARGUMENT,
        "int reword(int) " + INDEX,
        "int begin(int, int) " + INDEX + " " + STATE,
        "int answer(int, int) " + INDEX + " " + ARGUMENT + " " + STATE,
        "void save(int) " + INDEX + " " + STATE,
        "boolean wake(int) " + INDEX + " " + STATE,
        "int leave(int) " + INDEX + " " + STATE,
        "int runs()",
        "int state(int) " + INDEX,
        "int question(int) " + INDEX,
        "int version(int) " + INDEX,
        "int fuel(int) " + INDEX,
        "int fuelAgain(int) " + INDEX,
        "int slot(int, int) " + INDEX,
        "int slotAgain(int, int) " + INDEX,
        "int depth(int) " + INDEX,
        "int answers(int) " + INDEX,
        "int answerAt(int, int) " + INDEX,
        "int reward(int) " + INDEX,
        "int budget(int) " + INDEX,
        "int repaid()",
        "int done(int, int) " + INDEX,
    };

    private static final String[] INSTRUCTIONS = {
        "ASK", "PUSH", "LOAD", "STORE", "ADD", "MINUS", "LESS", "EQUAL", "JUMP", "ZERO", "PAY", "GATE", "FINISH"
    };
    private static final String[] STATES = {"ASKS", "SAVED", "DONE", "SCREENED", "EXHAUSTED", "WRONG", "LEFT"};

    public static void main(String[] args) throws IllegalAccessException {
        Class<?> face = AskMachine.class;
        Checks.due("public final class", face.getModifiers(), Modifier.PUBLIC | Modifier.FINAL);
        methods(face);
        constants(face);
        Constructor<?>[] constructors = face.getDeclaredConstructors();
        Checks.due("constructors", constructors.length, 1);
        Checks.due("its arguments", constructors[0].getParameterCount(), 0);
        Checks.due("public", Modifier.isPublic(constructors[0].getModifiers()), true);
        for (Class<?> inside : face.getDeclaredClasses()) {
            boolean kept = Modifier.isStatic(inside.getModifiers()) && !Modifier.isPublic(inside.getModifiers());
            Checks.due(inside.getName() + " is static and not public", kept, true);
        }
        Checks.end();
    }

    private static void methods(Class<?> face) {
        TreeSet<String> got = new TreeSet<>();
        TreeSet<String> names = new TreeSet<>();
        List<String> hidden = new ArrayList<>();
        for (Method method : face.getDeclaredMethods()) {
            if (isHidden(method)) {
                hidden.add(method.getName());
            } else {
                got.add(told(method));
                names.add(method.getName());
            }
        }
        Checks.due("methods", got, new TreeSet<>(Arrays.asList(METHODS)));
        for (Class<?> inside : face.getDeclaredClasses()) {
            for (Method method : inside.getDeclaredMethods()) {
                hidden.add(method.getName());
            }
        }
        for (String name : hidden) {
            Checks.due("a method of its own has the public name " + name, names.contains(name), false);
        }
    }

    private static String told(Method method) {
        StringBuilder text = new StringBuilder();
        text.append(method.getReturnType().getSimpleName()).append(' ').append(method.getName()).append('(');
        String between = "";
        for (Class<?> parameter : method.getParameterTypes()) {
            text.append(between).append(parameter.getSimpleName());
            between = ", ";
        }
        text.append(')');
        for (Class<?> thrown : method.getExceptionTypes()) {
            text.append(' ').append(thrown.getSimpleName());
        }
        return text.toString();
    }

    private static void constants(Class<?> face) throws IllegalAccessException {
        TreeSet<String> got = new TreeSet<>();
        for (Field field : face.getDeclaredFields()) {
            if (!isHidden(field)) {
                Checks.due(field.getName() + " is a constant", field.getModifiers(), Modifier.PUBLIC | Modifier.STATIC | Modifier.FINAL);
                got.add(field.getName() + " " + field.getInt(null));
            }
        }
        TreeSet<String> want = new TreeSet<>();
        want.add("NONE -1");
        for (int i = 0; i < INSTRUCTIONS.length; i++) {
            want.add(INSTRUCTIONS[i] + " " + i);
        }
        for (int i = 0; i < STATES.length; i++) {
            want.add(STATES[i] + " " + i);
        }
        Checks.due("constants", got, want);
    }

    private static boolean isHidden(Member member) {
        return Modifier.isPrivate(member.getModifiers());
    }
}
