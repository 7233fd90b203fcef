import java.io.IOException;
import java.lang.reflect.Constructor;
import java.lang.reflect.Field;
import java.lang.reflect.Method;
import java.lang.reflect.Modifier;
import java.nio.file.Files;
import java.nio.file.Path;
import java.util.ArrayList;
import java.util.Arrays;
import java.util.List;
import java.util.Set;
import java.util.TreeSet;
import java.util.regex.Matcher;
import java.util.regex.Pattern;

/** The face of the class is the document's, and its source leaves out what the language rules forbid. */
public final class FineScripShape {
    private static final String INDEX = " IndexOutOfBoundsException";
    private static final String ARGUMENT = " IllegalArgumentException";
    private static final String STATE = " IllegalStateException";

    private static final String[] FACE = {
        "int digger()" + STATE,
        "int stake(int,int)" + INDEX + ARGUMENT + STATE,
        "int leave(int)" + INDEX + STATE,
        "int vein(int,int)" + ARGUMENT,
        "int weigh(int,int)" + INDEX + ARGUMENT + STATE,
        "int buy(int,int)" + INDEX + ARGUMENT + STATE,
        "int melt()" + STATE,
        "int adjust(int)" + ARGUMENT,
        "int pass(int)" + ARGUMENT + STATE,
        "int set(int,int)" + INDEX + ARGUMENT,
        "int append(int)" + ARGUMENT + STATE,
        "int clearBuffer()",
        "int firstError()",
        "int live()" + ARGUMENT,
        "int keep(int)" + ARGUMENT,
        "int goBack(int)" + ARGUMENT + STATE,
        "int undo()" + STATE,
        "int diggerOf(int,int)" + INDEX + ARGUMENT,
        "int claim(int,int)" + ARGUMENT,
        "int bar(int,int)" + INDEX + ARGUMENT,
        "int count(int)" + ARGUMENT,
        "int setting(int)" + INDEX,
        "int ifWeighed(int,int)" + ARGUMENT,
        "int grainsFor(int)" + ARGUMENT,
        "int worst()",
        "int safeFineness()",
        "double fineShare()",
        "long digest()",
    };

    private static final String[] FORBIDDEN = {
        "import ", "Exact\\(", "Double\\.", "Float\\.", "->", "::", "\\btry\\b", "\\bcatch\\b", "\\bfinally\\b", "\\bassert\\b",
        "\\bsynchronized\\b", "\\bpackage\\b", "\\bSystem\\.(?!arraycopy)", "\\bMath\\.", "\\bprotected\\b",
        "\\bstatic\\s*\\{", "\" *\\+", "\\+ *\"", "while *\\(true\\)", "for *\\(;;", "[^\\x09\\x0a\\x20-\\x7e]",
        "\\.(getMessage|equals|hashCode|toString)\\(",
    };

    private static final int MOST_LINES = 60;
    private static final int MOST_PARAMETERS = 7;
    private static final int MOST_CLASSES = 12;
    private static final int MOST_FIELDS = 20;

    private static int wrong = 0;

    private static void due(String what, Object want, Object got) {
        if (!want.equals(got)) {
            wrong++;
            System.out.println(what + ": " + got + ", due is " + want);
        }
    }

    private static String told(Method method) {
        StringBuilder text = new StringBuilder(method.getReturnType() + " " + method.getName() + "(");
        for (Class<?> type : method.getParameterTypes()) {
            text.append(text.charAt(text.length() - 1) == '(' ? "" : ",").append(type);
        }
        text.append(")");
        for (Class<?> type : method.getExceptionTypes()) {
            text.append(" ").append(type.getSimpleName());
        }
        return text.toString();
    }

    private static void checkMembers() {
        Class<?> type = FineScrip.class;
        due("modifiers", Modifier.PUBLIC | Modifier.FINAL, type.getModifiers());
        Set<String> names = new TreeSet<>();
        Set<String> face = new TreeSet<>();
        for (Method method : type.getDeclaredMethods()) {
            if (Modifier.isPrivate(method.getModifiers())) {
                continue;
            }
            due(method + " is public alone", Modifier.PUBLIC, method.getModifiers());
            face.add(told(method));
            names.add(method.getName());
        }
        due("face", new TreeSet<>(Arrays.asList(FACE)), face);
        for (Constructor<?> constructor : type.getDeclaredConstructors()) {
            due("constructor", "public FineScrip()", constructor.toString());
        }
        for (Field field : type.getDeclaredFields()) {
            boolean isNone = field.getName().equals("NONE");
            due(field + " is private", !isNone, Modifier.isPrivate(field.getModifiers()));
            if (Modifier.isStatic(field.getModifiers())) {
                due(field + " is final", true, Modifier.isFinal(field.getModifiers()));
            }
        }
        checkPrivateNames(type, names);
        for (Class<?> inside : type.getDeclaredClasses()) {
            due(inside + " is public", false, Modifier.isPublic(inside.getModifiers()));
            due(inside + " is static", true, Modifier.isStatic(inside.getModifiers()));
            checkPrivateNames(inside, names);
        }
    }

    private static void checkPrivateNames(Class<?> type, Set<String> face) {
        for (Method method : type.getDeclaredMethods()) {
            if (type != FineScrip.class || Modifier.isPrivate(method.getModifiers())) {
                due(method + " bears a public name", false, face.contains(method.getName()));
            }
        }
    }

    private static void checkSizes() {
        List<Class<?>> types = new ArrayList<>(Arrays.asList(FineScrip.class.getDeclaredClasses()));
        types.add(FineScrip.class);
        due(types.size() + " classes are too many", false, types.size() > MOST_CLASSES);
        for (Class<?> type : types) {
            long fields = Arrays.stream(type.getDeclaredFields()).filter(f -> !Modifier.isStatic(f.getModifiers())).count();
            due(type + " has too many fields", false, fields > MOST_FIELDS);
            for (Method method : type.getDeclaredMethods()) {
                due(method + " has too many parameters", false, method.getParameterCount() > MOST_PARAMETERS);
            }
            for (Field field : type.getDeclaredFields()) {
                boolean isStatic = Modifier.isStatic(field.getModifiers());
                due(field + " is static, not final", false, isStatic && !Modifier.isFinal(field.getModifiers()));
            }
        }
    }

    /** No block of the class, or of a class inside it, is longer than a method may be. */
    private static void checkLengths(String source) {
        String[] lines = source.split("\n");
        for (int from = 0; from < lines.length; from++) {
            Matcher opening = Pattern.compile("( {4}| {8})\\S.*\\{").matcher(lines[from]);
            if (!opening.matches() || lines[from].contains(" class ")) {
                continue;
            }
            int to = from + 1;
            while (to < lines.length && !lines[to].startsWith(opening.group(1) + "}")) {
                to++;
            }
            due(lines[from].trim() + " is too long", false, to - from > MOST_LINES);
        }
    }

    private static void checkSource() throws IOException {
        String source = Files.readString(Path.of("src/main/java/FineScrip.java"));
        String code = source.replaceAll("(?s)/\\*.*?\\*/", "").replaceAll("//[^\n]*", "");
        for (String pattern : FORBIDDEN) {
            Matcher found = Pattern.compile(pattern).matcher(code);
            due("'" + pattern + "' stands in the source", false, found.find());
        }
        checkLengths(source);
        Matcher thrown = Pattern.compile("throw\\b(?! new (IllegalState|IllegalArgument|IndexOutOfBounds)Exception\\(\"[^\"]+\"\\);)")
            .matcher(code.replaceAll("throws\\b", ""));
        due("another throw stands in the source", false, thrown.find());
    }

    public static void main(String[] args) throws IOException {
        checkMembers();
        checkSizes();
        checkSource();
        System.out.println(wrong == 0 ? "the shape is as due" : wrong + " faults of shape");
        if (wrong != 0) {
            System.exit(1);
        }
    }
}
