import java.lang.reflect.Constructor;
import java.lang.reflect.Field;
import java.lang.reflect.Method;
import java.lang.reflect.Modifier;
import java.util.ArrayList;
import java.util.Arrays;
import java.util.List;

/** The public face: the signatures of the document, and no other member that others can see. */
public final class FaceTest {
    private static final String I = "IllegalStateException";
    private static final String A = "IllegalArgumentException";
    private static final String X = "IndexOutOfBoundsException";

    private static final String[] FACE = {
        "int addPlace() " + I,
        "int addTransition(int) " + A + " " + I,
        "boolean link(int, int, boolean, boolean) " + X,
        "int setTokens(int, int, boolean) " + X + " " + A,
        "int count(int) " + X,
        "int label(int) " + X,
        "int markings()",
        "int tokens(int, int) " + I + " " + X,
        "int enabled(int) " + I + " " + X,
        "int next(int, int) " + I + " " + X,
        "int last() " + I,
        "int dead() " + I,
        "int live() " + I,
        "int away(int) " + I + " " + X,
        "int event(int) " + A + " " + I,
        "int store(int) " + A + " " + I,
        "int dropTrace() " + I,
        "int length(int) " + X,
        "int setLabelCost(int, int) " + X + " " + A,
        "int setCost(int, int) " + X + " " + A,
        "int cost(int) " + X + " " + I,
        "int moves(int) " + X + " " + I,
        "int move(int, int, int) " + X + " " + I + " " + A,
        "int worst(int) " + X + " " + I,
        "double fitness(int) " + X + " " + I,
        "int total(int, int) " + X + " " + I,
        "double allFitness() " + I,
        "double precision() " + I,
        "long digest()"
    };

    private static int wrong = 0;

    private static void complain(String text) {
        wrong++;
        System.out.println(text);
    }

    private static String names(Class<?>[] types, String between) {
        List<String> names = new ArrayList<>();
        for (Class<?> type : types) {
            names.add(type.getSimpleName());
        }
        return String.join(between, names);
    }

    private static String told(Method m) {
        String told = m.getReturnType() + " " + m.getName() + "(" + names(m.getParameterTypes(), ", ") + ") ";
        return (told + names(m.getExceptionTypes(), " ")).trim();
    }

    public static void main(String[] args) {
        List<String> due = new ArrayList<>(Arrays.asList(FACE));
        for (Method method : TraceAligner.class.getDeclaredMethods()) {
            boolean isPlain = method.getModifiers() == Modifier.PUBLIC;
            if (isPlain && !due.remove(told(method))) {
                complain("not in the document: " + told(method));
            }
            if (!isPlain && !Modifier.isPrivate(method.getModifiers())) {
                complain("neither public nor private: " + method);
            }
        }
        for (String missing : due) {
            complain("missing: " + missing);
        }
        for (Field field : TraceAligner.class.getDeclaredFields()) {
            if (!Modifier.isPrivate(field.getModifiers())) {
                complain("a field that is not private: " + field);
            }
        }
        Constructor<?>[] constructors = TraceAligner.class.getDeclaredConstructors();
        if (constructors.length != 1 || constructors[0].getModifiers() != Modifier.PUBLIC
                || constructors[0].getParameterCount() != 0) {
            complain("there must be one public constructor without parameters");
        }
        if (TraceAligner.class.getModifiers() != (Modifier.PUBLIC | Modifier.FINAL)) {
            complain("the class must be public and final");
        }
        System.out.println("FaceTest: " + wrong + " members are not as due");
        if (wrong != 0) System.exit(1);
    }
}
