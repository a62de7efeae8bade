import java.lang.reflect.Constructor;
import java.lang.reflect.Field;
import java.lang.reflect.Method;
import java.lang.reflect.Modifier;
import java.util.ArrayList;
import java.util.Arrays;
import java.util.HashSet;
import java.util.List;
import java.util.Set;
import java.util.TreeSet;

/** The public face is that of the document, and nothing more. */
final class FaceTest {
    private static final String OUT = "IndexOutOfBoundsException";
    private static final String ARG = "IllegalArgumentException";
    private static final String STATE = "IllegalStateException";
    private static final String NONE = "NoSuchElementException";
    private static final String MATH = "ArithmeticException";
    private static final int MAX_CLASSES = 12;
    private static final int MAX_FIELDS = 20;
    private static final String[] FACE = {
        "int submit(int,int,int,int) " + ARG + " " + STATE, "int advance(int) " + ARG + " " + STATE,
        "int cancel(int) " + OUT + " " + STATE, "int preempt(int,int) " + OUT + " " + ARG + " " + STATE,
        "int reserve(int,int,int) " + ARG + " " + STATE, "int refusal()",
        "void cancelReservation(int) " + OUT + " " + STATE, "int reservedProcessor(int) " + OUT + " " + STATE,
        "boolean setFair(boolean)", "int clock()", "int jobCount()", "int state(int) " + OUT,
        "int startTime(int) " + OUT + " " + STATE, "int firstProcessor(int) " + OUT + " " + STATE,
        "int promise(int) " + OUT, "int finishTime(int) " + OUT + " " + STATE, "int preemptions(int) " + OUT,
        "int waitTime(int) " + OUT + " " + STATE, "double averageWait() " + MATH,
        "float slowdown(int) " + OUT + " " + STATE, "int usage(int) " + OUT, "double utilization() " + MATH,
        "int makespan()", "int ownerAt(int,int) " + OUT, "int freeProcessors(int) " + OUT,
        "int freeBlocks(int) " + OUT, "int largestFree() " + NONE, "double fragmentation() " + NONE,
        "int earliestStart(int,int) " + ARG, "int lowestBlock(int,int,int) " + ARG + " " + NONE,
        "int blockStarts(int,int) " + ARG, "int busiestBlock() " + NONE, "int eventCount()",
        "int event(int,int) " + OUT, "void save()", "int restore() " + STATE,
    };

    static void run(Check check) {
        Class<?> face = BuddyBlockScheduler.class;
        check.same("face: final", Modifier.isFinal(face.getModifiers()), true);
        Set<String> visible = new TreeSet<>();
        Set<String> hidden = new HashSet<>();
        Set<String> publicNames = new HashSet<>();
        collectMethods(face, visible, hidden, publicNames);
        check.same("face: methods", visible, new TreeSet<>(Arrays.asList(FACE)));
        hidden.retainAll(publicNames);
        check.same("face: private methods with a public name", hidden, new HashSet<String>());
        for (Field field : face.getDeclaredFields()) {
            check.same("face: field " + field.getName(), Modifier.isPrivate(field.getModifiers()), true);
        }
        Constructor<?>[] constructors = face.getDeclaredConstructors();
        check.same("face: constructors", constructors.length, 1);
        check.same("face: of no parameters", constructors[0].getParameterCount(), 0);
        check.same("face: and public", Modifier.isPublic(constructors[0].getModifiers()), true);
        classesAreSmall(check, face);
    }

    /** Rules 1, 2, 5 and 11 of LANGUAGE.md: the classes inside, their fields, and no static state. */
    private static void classesAreSmall(Check check, Class<?> face) {
        List<Class<?>> classes = new ArrayList<>(Arrays.asList(face.getDeclaredClasses()));
        for (Class<?> inside : classes) {
            check.same("face: static " + inside.getName(), Modifier.isStatic(inside.getModifiers()), true);
            check.same("face: hidden " + inside.getName(), Modifier.isPublic(inside.getModifiers()), false);
        }
        classes.add(face);
        check.same("face: at most twelve classes", classes.size() <= MAX_CLASSES, true);
        for (Class<?> one : classes) {
            int fields = 0;
            for (Field field : one.getDeclaredFields()) {
                boolean isStatic = Modifier.isStatic(field.getModifiers());
                boolean constant = Modifier.isFinal(field.getModifiers()) && field.getType() == int.class;
                check.same("face: no static state in " + field.getName(), !isStatic || constant, true);
                fields += isStatic ? 0 : 1;
            }
            check.same("face: at most twenty fields in " + one.getName(), fields <= MAX_FIELDS, true);
        }
    }

    private static void collectMethods(Class<?> face, Set<String> visible, Set<String> hidden, Set<String> names) {
        for (Method method : face.getDeclaredMethods()) {
            if (Modifier.isPrivate(method.getModifiers())) {
                hidden.add(method.getName());
            } else {
                names.add(method.getName());
                visible.add(describe(method));
            }
        }
        for (Class<?> inside : face.getDeclaredClasses()) {
            for (Method method : inside.getDeclaredMethods()) {
                hidden.add(method.getName());
            }
        }
    }

    private static String describe(Method method) {
        StringBuilder text = new StringBuilder();
        if (!Modifier.isPublic(method.getModifiers())) {
            text.append("not public ");
        }
        text.append(method.getReturnType().getSimpleName()).append(' ').append(method.getName()).append('(');
        String comma = "";
        for (Class<?> parameter : method.getParameterTypes()) {
            text.append(comma).append(parameter.getSimpleName());
            comma = ",";
        }
        text.append(')');
        for (Class<?> thrown : method.getExceptionTypes()) {
            text.append(' ').append(thrown.getSimpleName());
        }
        return text.toString();
    }
}
