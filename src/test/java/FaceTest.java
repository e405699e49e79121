import java.io.IOException;
import java.lang.reflect.Constructor;
import java.lang.reflect.Field;
import java.lang.reflect.Method;
import java.lang.reflect.Modifier;
import java.nio.file.Files;
import java.nio.file.Path;
import java.util.Arrays;
import java.util.List;
import java.util.Set;
import java.util.TreeSet;
import java.util.regex.Matcher;
import java.util.regex.Pattern;

/** The class's face, and those rules of LANGUAGE.md that can be seen from the class or from its text. */
public final class FaceTest {
    private static final String ARGUMENT = " IllegalArgumentException";
    private static final String STATE = " IllegalStateException";
    private static final String INDEX = " IndexOutOfBoundsException";
    private static final List<String> FACE = List.of(
            "int setVolume(int)" + ARGUMENT + STATE, "int set(int, int)" + ARGUMENT,
            "int addCompressor(int)" + ARGUMENT + STATE, "int trip(int)" + INDEX + STATE,
            "int clear(int)" + INDEX + STATE, "int rotate()", "int pass(int)" + ARGUMENT + STATE,
            "int leakTest(int)" + ARGUMENT + STATE, "int compressor(int, int)" + INDEX + ARGUMENT,
            "int atStage(int)" + INDEX, "int value(int)" + ARGUMENT, "int setting(int)" + ARGUMENT,
            "long booked(int)" + ARGUMENT, "int result(int)" + INDEX, "int next(int)" + INDEX,
            "int pressureIn(int)" + ARGUMENT, "int minutesToLoad()", "int canServe(int)" + ARGUMENT,
            "int energyWith(int, int)" + ARGUMENT, "int bestOrder(int, int)" + ARGUMENT + INDEX,
            "double loadedShare()", "int append(int)" + ARGUMENT + STATE, "int clearText()", "int carryOut()",
            "int undo()" + STATE, "long digest()");
    private static final List<String> RULED_OUT = List.of("->", "::", "Exact\\(", "\\bfinally\\b", "\\bcatch\\b",
            "\\bsynchronized\\b", "\\bassert\\b", "\\bpackage\\b", "\\bimport\\b", "\" \\+", "\\+ \"", "\\brecord\\b",
            "\\bstatic \\{", "@", "\\bprotected\\b", "NullPointerException", "ClassCastException",
            "ArrayIndexOutOfBoundsException", "NegativeArraySizeException", "\\.equals\\(", "\\.hashCode\\(",
            "\\.toString\\(", "\\[\\]\\[\\]", "\\btry\\b");
    private static final Set<String> LIBRARY = Set.of("Math.max", "Math.min", "System.arraycopy");
    private static final Set<String> MADE = Set.of("int", "long", "State", "Compressor", "History", "Program",
            "IllegalArgumentException", "IllegalStateException", "IndexOutOfBoundsException");

    public static void main(String[] args) throws IOException {
        methodsAreThoseOfTheFace();
        constantsAndConstructorsAreThoseOfTheFace();
        classesInsideAreStatic();
        noMethodInsideBearsAPublicName();
        fieldsAreFew();
        if (args.length > 0) {
            textKeepsToTheRules(Files.readString(Path.of(args[0])));
        }
        Checks.end();
    }

    private static String told(Method method) {
        StringBuilder all = new StringBuilder();
        all.append(method.getReturnType().getName()).append(' ').append(method.getName()).append('(');
        for (int index = 0; index < method.getParameterCount(); index++) {
            all.append(index == 0 ? "" : ", ").append(method.getParameterTypes()[index].getName());
        }
        all.append(')');
        for (Class<?> thrown : method.getExceptionTypes()) {
            all.append(' ').append(thrown.getSimpleName());
        }
        return all.toString();
    }

    private static void methodsAreThoseOfTheFace() {
        Set<String> open = new TreeSet<>();
        for (Method method : AirStation.class.getDeclaredMethods()) {
            if (!Modifier.isPrivate(method.getModifiers()) && !method.isSynthetic()) {
                open.add(told(method));
                Checks.due(method.getName() + " is public", method.getModifiers(), Modifier.PUBLIC);
            }
        }
        Checks.dueText("the methods", open.toString(), new TreeSet<>(FACE).toString());
    }

    private static void constantsAndConstructorsAreThoseOfTheFace() {
        Checks.due("the class", AirStation.class.getModifiers(), Modifier.PUBLIC | Modifier.FINAL);
        Checks.dueText("its package", AirStation.class.getPackageName(), "");
        for (Field field : AirStation.class.getDeclaredFields()) {
            boolean isOpen = !Modifier.isPrivate(field.getModifiers());
            Checks.due(field.getName() + " is open", isOpen ? 1 : 0, field.getName().equals("NONE") ? 1 : 0);
            if (Modifier.isStatic(field.getModifiers())) {
                Checks.due(field.getName() + " is final", Modifier.isFinal(field.getModifiers()) ? 1 : 0, 1);
            }
        }
        Constructor<?>[] constructors = AirStation.class.getDeclaredConstructors();
        Checks.due("the constructors", constructors.length, 1);
        Checks.due("its parameters", constructors[0].getParameterCount(), 0);
        Checks.due("it is public", constructors[0].getModifiers(), Modifier.PUBLIC);
    }

    private static void classesInsideAreStatic() {
        Class<?>[] inside = AirStation.class.getDeclaredClasses();
        Checks.due("no more than twelve classes", inside.length < 12 ? 1 : 0, 1);
        for (Class<?> one : inside) {
            Checks.due(one + " is static", Modifier.isStatic(one.getModifiers()) ? 1 : 0, 1);
            Checks.due(one + " is not public", Modifier.isPublic(one.getModifiers()) ? 1 : 0, 0);
        }
    }

    private static void noMethodInsideBearsAPublicName() {
        Set<String> names = new TreeSet<>();
        for (Method method : AirStation.class.getMethods()) {
            names.add(method.getName());
        }
        for (Method method : AirStation.class.getDeclaredMethods()) {
            if (Modifier.isPrivate(method.getModifiers())) {
                Checks.due(method + " bears a public name", names.contains(method.getName()) ? 1 : 0, 0);
            }
        }
        for (Class<?> one : AirStation.class.getDeclaredClasses()) {
            for (Method method : one.getDeclaredMethods()) {
                Checks.due(method + " bears a public name", names.contains(method.getName()) ? 1 : 0, 0);
                Checks.due(method + " has at most seven parameters", method.getParameterCount() <= 7 ? 1 : 0, 1);
            }
        }
    }

    private static void fieldsAreFew() {
        for (Class<?> one : AirStation.class.getDeclaredClasses()) {
            long fields = Arrays.stream(one.getDeclaredFields())
                    .filter(field -> !Modifier.isStatic(field.getModifiers())).count();
            Checks.due(one + " has at most twenty fields", fields <= 20 ? 1 : 0, 1);
        }
    }

    private static void textKeepsToTheRules(String text) {
        String code = text.replaceAll("(?s)/\\*.*?\\*/", "").replaceAll("//[^\n]*", "");
        for (String ruledOut : RULED_OUT) {
            Matcher matcher = Pattern.compile(ruledOut).matcher(code);
            Checks.due("there is " + ruledOut, matcher.find() ? 1 : 0, 0);
        }
        Matcher thrown = Pattern.compile("throw ([^;]*);").matcher(code);
        while (thrown.find()) {
            boolean isWritten = thrown.group(1).matches(
                    "new (IllegalArgument|IllegalState|IndexOutOfBounds)Exception\\(\"[a-z ]*\"\\)");
            Checks.due("throw " + thrown.group(1), isWritten ? 1 : 0, 1);
        }
        libraryIsWhatIsListed(code);
        signsArePlain(text);
        methodsAreShort(code);
    }

    // Names with a capital ahead of a point: the program calls no static function but these, and makes nothing else.
    private static void libraryIsWhatIsListed(String code) {
        Matcher called = Pattern.compile("\\b([A-Z][A-Za-z]*\\.[A-Za-z]+)").matcher(code);
        while (called.find()) {
            Checks.due(called.group(1) + " is listed", LIBRARY.contains(called.group(1)) ? 1 : 0, 1);
        }
        Matcher madeOf = Pattern.compile("\\bnew ([A-Za-z]+)").matcher(code);
        while (madeOf.find()) {
            Checks.due("new " + madeOf.group(1) + " is listed", MADE.contains(madeOf.group(1)) ? 1 : 0, 1);
        }
    }

    private static void signsArePlain(String text) {
        for (int index = 0; index < text.length(); index++) {
            char sign = text.charAt(index);
            if (sign != '\n' && (sign < ' ' || sign > '~')) {
                Checks.tell("the sign " + (int) sign + " stands at " + index);
            }
        }
    }

    private static void methodsAreShort(String code) {
        int lines = 0;
        for (String line : code.split("\n")) {
            lines = line.isBlank() ? 0 : lines + 1;
            Checks.due("lines in one piece up to " + line, lines <= 60 ? 1 : 0, 1);
        }
    }
}
