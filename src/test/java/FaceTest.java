import java.lang.reflect.Constructor;
import java.lang.reflect.Field;
import java.lang.reflect.Method;
import java.lang.reflect.Modifier;
import java.util.ArrayList;
import java.util.Arrays;
import java.util.List;
import java.util.TreeSet;

/** The public face is the document's, word for word, and there is nothing beside it. */
public final class FaceTest {
    private static final String INDEX = " IndexOutOfBoundsException";
    private static final String ARGUMENT = " IllegalArgumentException";
    private static final String STATE = " IllegalStateException";

    private static final String[] FACE = {
        "int addPerson int int" + ARGUMENT + STATE,
        "int setNeed int int int" + INDEX + ARGUMENT,
        "boolean forbid int int boolean" + INDEX,
        "int setRun int" + ARGUMENT,
        "boolean wish int int boolean" + INDEX,
        "int fix int int int" + INDEX + ARGUMENT,
        "int plan",
        "int rounds",
        "int set int int int" + INDEX + ARGUMENT + STATE,
        "int swap int int int" + INDEX + STATE,
        "int closeWeek",
        "int people",
        "int entry int int" + INDEX,
        "int gaps",
        "int gap int int" + INDEX,
        "int shifts int" + INDEX,
        "int weekends int" + INDEX,
        "int broken int" + INDEX,
        "int runBefore int" + INDEX,
        "boolean isFeasible int" + INDEX,
        "int weeks int" + INDEX,
        "int weeksByDays int" + INDEX,
        "int couldTake int int" + INDEX,
        "int swapFor int int" + INDEX,
        "int bound",
    };

    private FaceTest() {
    }

    public static void main(String[] args) {
        methods();
        constants();
        theRest();
        Check.end("FaceTest");
    }

    private static void methods() {
        TreeSet<String> found = new TreeSet<>();
        List<String> hidden = new ArrayList<>();
        for (Method method : CoverSheet.class.getDeclaredMethods()) {
            if (Modifier.isPublic(method.getModifiers())) {
                Check.due(method.getName() + " is static", Modifier.isStatic(method.getModifiers()), false);
                found.add(toldOf(method));
            } else {
                Check.due(method.getName() + " is private", Modifier.isPrivate(method.getModifiers()), true);
                hidden.add(method.getName());
            }
        }
        Check.due("the public methods", found, new TreeSet<>(Arrays.asList(FACE)));
        for (Class<?> inside : CoverSheet.class.getDeclaredClasses()) {
            for (Method method : inside.getDeclaredMethods()) {
                hidden.add(method.getName());
            }
        }
        for (String line : FACE) {
            String name = line.split(" ")[1];
            Check.due("a hidden method has the name " + name, hidden.contains(name), false);
        }
    }

    private static String toldOf(Method method) {
        StringBuilder text = new StringBuilder();
        text.append(method.getReturnType().getSimpleName()).append(' ').append(method.getName());
        for (Class<?> type : method.getParameterTypes()) {
            text.append(' ').append(type.getSimpleName());
        }
        for (Class<?> type : method.getExceptionTypes()) {
            text.append(' ').append(type.getSimpleName());
        }
        return text.toString();
    }

    private static void constants() {
        Check.due("NONE", CoverSheet.NONE, -1);
        Check.due("OFF", CoverSheet.OFF, 0);
        Check.due("EARLY", CoverSheet.EARLY, 1);
        Check.due("LATE", CoverSheet.LATE, 2);
        Check.due("NIGHT", CoverSheet.NIGHT, 3);
        TreeSet<String> found = new TreeSet<>();
        for (Field field : CoverSheet.class.getDeclaredFields()) {
            int marks = field.getModifiers();
            if (!Modifier.isPrivate(marks)) {
                Check.due(field.getName() + " is a public constant",
                        Modifier.isPublic(marks) && Modifier.isStatic(marks) && Modifier.isFinal(marks)
                                && field.getType() == int.class, true);
                found.add(field.getName());
            }
        }
        Check.due("the constants", found.toString(), "[EARLY, LATE, NIGHT, NONE, OFF]");
    }

    private static void theRest() {
        int marks = CoverSheet.class.getModifiers();
        Check.due("the class is public and final", Modifier.isPublic(marks) && Modifier.isFinal(marks), true);
        Constructor<?>[] makers = CoverSheet.class.getDeclaredConstructors();
        Check.due("the constructors", makers.length, 1);
        Check.due("the constructor is public", Modifier.isPublic(makers[0].getModifiers()), true);
        Check.due("the constructor's parameters", makers[0].getParameterCount(), 0);
        Check.due("the constructor's exceptions", makers[0].getExceptionTypes().length, 0);
        for (Class<?> inside : CoverSheet.class.getDeclaredClasses()) {
            int insideMarks = inside.getModifiers();
            Check.due(inside.getName() + " is hidden and static",
                    Modifier.isStatic(insideMarks) && !Modifier.isPublic(insideMarks)
                            && !Modifier.isProtected(insideMarks), true);
        }
    }
}
