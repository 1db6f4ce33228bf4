import java.io.IOException;
import java.lang.reflect.Constructor;
import java.lang.reflect.Field;
import java.lang.reflect.Method;
import java.lang.reflect.Modifier;
import java.nio.file.Files;
import java.nio.file.Path;
import java.util.ArrayList;
import java.util.Arrays;
import java.util.HashSet;
import java.util.List;
import java.util.Set;
import java.util.TreeSet;
import java.util.regex.Matcher;
import java.util.regex.Pattern;

/** The document's face by reflection, and those rules of LANGUAGE.md that the words of the source show. */
public final class SourceTests {
    private static final String SOURCE = "src/main/java/RodGrids.java";
    private static final String[] FACE = {
        "int addMetal(int) IllegalArgumentException IllegalStateException",
        "int setStretch(int, int) IndexOutOfBoundsException IllegalArgumentException",
        "int addRod(int, int, int) IndexOutOfBoundsException IllegalArgumentException IllegalStateException",
        "int removeRod(int) IndexOutOfBoundsException",
        "int setLength(int, int) IndexOutOfBoundsException IllegalArgumentException",
        "int setShelf(int, int) IndexOutOfBoundsException IllegalArgumentException",
        "int hang(int) IndexOutOfBoundsException",
        "int turnNut(int) IllegalArgumentException IllegalStateException",
        "int wind()",
        "int set(int, int) IllegalArgumentException",
        "int pass(int) IllegalArgumentException IllegalStateException",
        "int rod(int, int) IndexOutOfBoundsException IllegalArgumentException",
        "int stretch(int) IndexOutOfBoundsException",
        "int shelf(int) IndexOutOfBoundsException",
        "int whole(int) IllegalArgumentException",
        "long balance()",
        "long rates()",
        "int balanceBits()",
        "long day(int, int) IllegalArgumentException",
        "double meanRate()",
        "int rateAt(int) IllegalArgumentException",
        "int matchLength(int) IndexOutOfBoundsException",
        "int bestNut()",
        "int rangeOfRates(int, int) IllegalArgumentException",
        "long changeWithin(int) IllegalArgumentException",
        "int type(int) IllegalArgumentException IllegalStateException",
        "int clearCommands()",
        "int runCommands()",
        "int undo() IllegalStateException",
        "long digest()"};
    /** Words that the rules forbid, or that this class has no need of. */
    private static final String[] FORBIDDEN = {"package", "import", "catch", "try", "finally", "synchronized", "assert",
        "instanceof", "protected", "native", "volatile", "transient", "var", "record", "Float", "Double", "Object",
        "Integer", "equals", "hashCode", "toString", "goto", "strictfp", "Thread", "Random"};
    private static final Set<String> LIBRARY = new HashSet<>(Arrays.asList("Math.max", "Math.min", "Math.abs",
            "Math.floorDiv", "System.arraycopy"));

    private SourceTests() {
    }

    public static void main(String[] args) throws IOException {
        face();
        inside();
        words(Files.readString(Path.of(SOURCE)));
        Check.end("SourceTests");
    }

    private static void face() {
        Check.due("RodGrids is public and final", RodGrids.class.getModifiers(), Modifier.PUBLIC | Modifier.FINAL);
        Set<String> members = new TreeSet<>();
        Set<String> hidden = new HashSet<>();
        for (Method method : RodGrids.class.getDeclaredMethods()) {
            if (Modifier.isPrivate(method.getModifiers())) {
                hidden.add(method.getName());
            } else {
                members.add(faceOf(method));
            }
        }
        Check.due("the methods of the face", members, new TreeSet<>(Arrays.asList(FACE)));
        for (String line : FACE) {
            String name = line.substring(line.indexOf(' ') + 1, line.indexOf('('));
            Check.due("a private method " + name, hidden.contains(name), false);
        }
        for (Constructor<?> constructor : RodGrids.class.getDeclaredConstructors()) {
            Check.due("constructor", constructor.toString(), "public RodGrids()");
        }
        for (Field field : RodGrids.class.getDeclaredFields()) {
            int modifiers = field.getModifiers();
            Check.due("field " + field, field.getName().equals("NONE") || Modifier.isPrivate(modifiers), true);
            Check.due("field " + field + " is final", Modifier.isFinal(modifiers), true);
        }
    }

    private static String faceOf(Method method) {
        StringBuilder line = new StringBuilder();
        List<String> types = new ArrayList<>();
        for (Class<?> type : method.getParameterTypes()) {
            types.add(type.getSimpleName());
        }
        line.append(method.getReturnType().getSimpleName()).append(' ').append(method.getName());
        line.append('(').append(String.join(", ", types)).append(')');
        for (Class<?> thrown : method.getExceptionTypes()) {
            line.append(' ').append(thrown.getSimpleName());
        }
        boolean plain = method.getModifiers() == Modifier.PUBLIC;
        return plain ? line.toString() : "not plainly public: " + line;
    }

    private static void inside() {
        Class<?>[] classes = RodGrids.class.getDeclaredClasses();
        Check.due("at most twelve classes", classes.length < 12, true);
        for (Class<?> inner : classes) {
            Check.due(inner + " is private", Modifier.isPrivate(inner.getModifiers()), true);
            Check.due(inner + " is static", Modifier.isStatic(inner.getModifiers()), true);
            int fields = 0;
            for (Field field : inner.getDeclaredFields()) {
                fields += Modifier.isStatic(field.getModifiers()) ? 0 : 1;
            }
            Check.due(inner + " has at most twenty fields", fields <= 20, true);
        }
    }

    private static void words(String source) {
        String code = source.replaceAll("(?s)/\\*.*?\\*/", " ").replaceAll("//[^\n]*", " ").replaceAll("\"[^\"\n]*\"", "\"\"");
        for (String word : FORBIDDEN) {
            Check.due("the word " + word + " stands in " + SOURCE,
                    Pattern.compile("\\b" + word + "\\b").matcher(code).find(), false);
        }
        Check.due("a lambda or a reference to a method", code.contains("->") || code.contains("::"), false);
        Matcher call = Pattern.compile("\\b([A-Z]\\w*\\.[a-z]\\w*)\\s*\\(").matcher(code);
        while (call.find()) {
            Check.due("call of " + call.group(1), LIBRARY.contains(call.group(1)) || call.group(1).equals("Word.values"), true);
        }
        Matcher made = Pattern.compile("\\bnew (\\w+)").matcher(code);
        int outside = code.indexOf("private static final class Grid");
        while (made.find()) {
            boolean early = made.start() < outside && !made.group(1).matches("\\w*Exception|State|SavedStates|CommandText");
            Check.due("new " + made.group(1) + " in a call", early, false);
        }
    }
}
