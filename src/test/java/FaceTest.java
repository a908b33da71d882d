import java.lang.reflect.Constructor;
import java.lang.reflect.Field;
import java.lang.reflect.Method;
import java.lang.reflect.Modifier;
import java.util.HashSet;
import java.util.Set;
import java.util.TreeSet;

/** The members of CustomsShed are those of the document's face, with their exceptions in order. */
public final class FaceTest {
    private static final String NONE = "NoSuchElementException";
    private static final String INDEX = "IndexOutOfBoundsException";
    private static final String ARGUMENT = "IllegalArgumentException";
    private static final String STATE = "IllegalStateException";
    private static final String UNSUPPORTED = "UnsupportedOperationException";

    private static final String[] FACE = {
        "int addLot(char,int,int,int) " + INDEX + " " + ARGUMENT + " " + STATE + " " + UNSUPPORTED,
        "int seal(int) " + NONE + " " + STATE + " " + UNSUPPORTED, "int open(int) " + NONE + " " + STATE,
        "int wet(int) " + NONE + " " + STATE, "int move(int,int) " + NONE + " " + INDEX + " " + UNSUPPORTED,
        "int lotCount()", "int lot(int) " + INDEX, "char kind(int) " + NONE, "int quantity(int) " + NONE,
        "int price(int) " + NONE, "int value(int) " + NONE, "int bay(int) " + NONE,
        "boolean isSealed(int) " + NONE, "boolean isDamp(int) " + NONE, "int lotAt(int) " + INDEX + " " + NONE,
        "int nextEmptyBay(int) " + INDEX + " " + NONE, "int quantityOfKind(char) " + ARGUMENT,
        "int lotByValue(int) " + INDEX, "int addStep(int,int) " + ARGUMENT + " " + UNSUPPORTED + " " + STATE,
        "int removeStep(int) " + NONE, "int stepCount()", "int threshold(int) " + INDEX, "int rate(int) " + INDEX,
        "int dutyOn(int) " + ARGUMENT, "int dutyOnByCoins(int) " + ARGUMENT, "int duty(int) " + NONE,
        "int totalDuty()", "int totalDutyByBays()", "int passDays(int) " + ARGUMENT, "int day()",
        "int dampCount()", "int dampAfter(int) " + ARGUMENT, "int dampReach()", "int dampReachByStretches()",
        "int destroyedCount()", "int enqueue(int) " + NONE + " " + STATE, "int audit() " + NONE,
        "int queueLength()", "int queued(int) " + INDEX, "int deposit(int) " + ARGUMENT + " " + STATE,
        "int release(int) " + NONE + " " + UNSUPPORTED, "int bond()", "int collected()", "int mostReleases()",
        "double meanValue() ArithmeticException", "float sealedFraction() ArithmeticException",
        "int writeLot(int) " + NONE, "int writeBays()", "char outputCharacter(int) " + INDEX,
        "boolean isConsistent()", "int feed(char) " + STATE, "int execute() " + ARGUMENT + " " + UNSUPPORTED,
        "int errorPosition() " + NONE, "int failedCommand() " + NONE, "int undo() " + STATE, "int undoCount()",
        "int save()", "int restore() " + STATE,
    };

    private static final Check check = new Check("FaceTest");

    public static void main(String[] args) {
        Class<?> shed = CustomsShed.class;
        int modifiers = shed.getModifiers();
        check.holds("public and final", Modifier.isPublic(modifiers) && Modifier.isFinal(modifiers));
        check.same("package", shed.getPackageName(), "");
        constructors(shed);
        methods(shed);
        fields(shed);
        classesInside(shed);
        check.finish();
    }

    private static void constructors(Class<?> shed) {
        Constructor<?>[] constructors = shed.getDeclaredConstructors();
        check.same("constructors", constructors.length, 1);
        check.holds("the constructor is public", Modifier.isPublic(constructors[0].getModifiers()));
        check.same("arguments of the constructor", constructors[0].getParameterCount(), 0);
        check.same("exceptions of the constructor", constructors[0].getExceptionTypes().length, 0);
    }

    private static void methods(Class<?> shed) {
        Set<String> due = new TreeSet<>(Set.of(FACE));
        Set<String> publicNames = new HashSet<>();
        Set<String> privateNames = new HashSet<>();
        check.same("members of the face", due.size(), 58);
        for (Method method : shed.getDeclaredMethods()) {
            if (Modifier.isPrivate(method.getModifiers())) {
                privateNames.add(method.getName());
                continue;
            }
            publicNames.add(method.getName());
            boolean isOfAnObject = !Modifier.isStatic(method.getModifiers());
            check.holds(method + " is public", Modifier.isPublic(method.getModifiers()) && isOfAnObject);
            check.holds(method + " is due", due.remove(line(method)));
        }
        check.same("members that are missing", due.toString(), "[]");
        privateNames.retainAll(publicNames);
        check.same("private methods with a public name", privateNames.toString(), "[]");
    }

    private static String line(Method method) {
        StringBuilder line = new StringBuilder(method.getReturnType().getName());
        line.append(' ').append(method.getName()).append('(');
        String comma = "";
        for (Class<?> type : method.getParameterTypes()) {
            line.append(comma).append(type.getName());
            comma = ",";
        }
        line.append(')');
        for (Class<?> thrown : method.getExceptionTypes()) {
            line.append(' ').append(thrown.getSimpleName());
        }
        return line.toString();
    }

    private static void fields(Class<?> shed) {
        for (Field field : shed.getDeclaredFields()) {
            int modifiers = field.getModifiers();
            check.holds(field + " is private", Modifier.isPrivate(modifiers));
            check.holds(field + " is final if it is static", !Modifier.isStatic(modifiers) || Modifier.isFinal(modifiers));
        }
    }

    private static void classesInside(Class<?> shed) {
        for (Class<?> inside : shed.getDeclaredClasses()) {
            int modifiers = inside.getModifiers();
            check.holds(inside + " is not seen", !Modifier.isPublic(modifiers) && !Modifier.isProtected(modifiers));
            check.holds(inside + " is static", Modifier.isStatic(modifiers));
        }
    }
}
