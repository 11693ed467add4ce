import java.lang.reflect.Constructor;
import java.lang.reflect.Field;
import java.lang.reflect.Method;
import java.lang.reflect.Modifier;
import java.nio.file.Files;
import java.nio.file.Path;
import java.util.ArrayList;
import java.util.List;
import java.util.Set;
import java.util.TreeSet;
import java.util.regex.Matcher;
import java.util.regex.Pattern;

/** The public face is the document's, and the source keeps to the rules of LANGUAGE.md that words betray. */
public final class FaceTest {
    private static final String[] FACE = {
        "write 1", "wipe 0", "fault 0", "lay 0", "person 2", "send 1", "call 1", "buy 0", "pass 1", "undo 0",
        "behind 2", "when 1", "gentle 0", "latest 1", "order 1", "need 0", "seen 3", "forget 0", "kinds 1",
        "days 2", "likely 4", "year 3", "keep 0", "back 0", "count 1"};
    private static final String[] CONSTANTS = {"BAD -1", "NO -2", "FULL -3", "NONE -4"};
    private static final String BANNED =
        "\\b(throw|throws|try|catch|synchronized|assert|import|package|protected|Exact|Object|Thread|Random|Scanner"
        + "|hashCode|toString|double|float)\\b|->|::";

    private static final Set<String> LIBRARY = Set.of("Math.max(", "Math.min(", "Integer.bitCount(",
        "System.arraycopy(", "FIRST_TEXT.length(", "FIRST_TEXT.charAt(");

    private static int wrong = 0;

    public static void main(String[] args) throws Exception {
        checkMembers();
        checkNestedClasses();
        List<String> lines = codeLines();
        checkWords(lines);
        checkLibrary(lines);
        checkLengths(lines);
        System.out.println(wrong == 0 ? "the face and the words are as due" : wrong + " faults");
        if (wrong != 0) {
            System.exit(1);
        }
    }

    private static void fault(String what) {
        wrong++;
        System.out.println(what);
    }

    private static void same(String what, Set<String> got, Set<String> want) {
        if (!got.equals(want)) {
            fault(what + ": " + got + ", due are " + want);
        }
    }

    private static void checkMembers() throws Exception {
        Class<?> c = NewsHampers.class;
        if (!Modifier.isPublic(c.getModifiers()) || !Modifier.isFinal(c.getModifiers())) {
            fault("the class is not public and final");
        }
        Set<String> methods = new TreeSet<>();
        Set<String> hidden = new TreeSet<>();
        for (Method m : c.getDeclaredMethods()) {
            if (Modifier.isPrivate(m.getModifiers())) {
                hidden.add(m.getName());
                continue;
            }
            methods.add(m.getName() + " " + m.getParameterCount());
            if (m.getReturnType() != int.class || !Modifier.isPublic(m.getModifiers())
                || Modifier.isStatic(m.getModifiers())) {
                fault("not a public method of int: " + m);
            }
            for (Class<?> p : m.getParameterTypes()) {
                if (p != int.class) {
                    fault("a parameter that is no int: " + m);
                }
            }
        }
        same("methods", methods, new TreeSet<>(List.of(FACE)));
        for (String name : FACE) {
            if (hidden.contains(name.split(" ")[0])) {
                fault("a private method bears a public name: " + name);
            }
        }
        Set<String> fields = new TreeSet<>();
        for (Field f : c.getDeclaredFields()) {
            if (Modifier.isStatic(f.getModifiers()) && !Modifier.isFinal(f.getModifiers())) {
                fault("static and not final: " + f);
            }
            if (!Modifier.isPrivate(f.getModifiers())) {
                fields.add(f.getName() + " " + f.get(null));
            }
        }
        same("constants", fields, new TreeSet<>(List.of(CONSTANTS)));
        Constructor<?>[] all = c.getDeclaredConstructors();
        if (all.length != 1 || !Modifier.isPublic(all[0].getModifiers()) || all[0].getParameterCount() != 0) {
            fault("not one public constructor without parameters");
        }
    }

    private static void checkNestedClasses() {
        Class<?>[] nested = NewsHampers.class.getDeclaredClasses();
        if (nested.length > 11) {
            fault("too many classes: " + nested.length);
        }
        for (Class<?> c : nested) {
            if (!Modifier.isStatic(c.getModifiers()) || Modifier.isPublic(c.getModifiers())) {
                fault("a class inside that is not static, or is public: " + c);
            }
            for (Method m : c.getDeclaredMethods()) {
                if (isOfTheFace(m.getName())) {
                    fault("a class inside has a method with a public name: " + m);
                }
            }
            int fields = 0;
            for (Field f : c.getDeclaredFields()) {
                fields += Modifier.isStatic(f.getModifiers()) ? 0 : 1;
            }
            if (fields > 20) {
                fault("too many fields: " + c);
            }
        }
    }

    private static boolean isOfTheFace(String name) {
        for (String of : FACE) {
            if (of.split(" ")[0].equals(name)) {
                return true;
            }
        }
        return false;
    }

    /** The source without its comments. */
    private static List<String> codeLines() throws Exception {
        List<String> lines = new ArrayList<>();
        for (String line : Files.readAllLines(Path.of("src/main/java/NewsHampers.java"))) {
            int comment = line.indexOf("//");
            String code = comment >= 0 ? line.substring(0, comment) : line;
            lines.add(code.trim().startsWith("*") || code.trim().startsWith("/*") ? "" : code);
        }
        return lines;
    }

    private static void checkWords(List<String> lines) {
        Pattern banned = Pattern.compile(BANNED);
        for (int i = 0; i < lines.size(); i++) {
            Matcher m = banned.matcher(lines.get(i));
            if (m.find()) {
                fault("line " + (i + 1) + " has " + m.group());
            }
        }
    }

    /** Whatever is called on a name that begins with a capital is the library's, or a constant text's. */
    private static void checkLibrary(List<String> lines) {
        Pattern call = Pattern.compile("\\b[A-Z]\\w*\\.\\w+\\(");
        for (int i = 0; i < lines.size(); i++) {
            Matcher m = call.matcher(lines.get(i));
            while (m.find()) {
                if (!LIBRARY.contains(m.group())) {
                    fault("line " + (i + 1) + " calls " + m.group());
                }
            }
        }
    }

    private static void checkLengths(List<String> lines) {
        Pattern head = Pattern.compile("(    |        )[\\w].*\\) \\{");
        int methods = 0;
        for (int i = 0; i < lines.size(); i++) {
            Matcher m = head.matcher(lines.get(i));
            if (!m.matches()) {
                continue;
            }
            methods++;
            int end = i;
            while (end < lines.size() && !lines.get(end).equals(m.group(1) + "}")) {
                end++;
            }
            if (end - i >= 60) {
                fault("line " + (i + 1) + " begins a method of " + (end - i + 1) + " lines");
            }
            if (lines.get(i).chars().filter(c -> c == ',').count() > 6) {
                fault("line " + (i + 1) + " has too many parameters");
            }
        }
        if (methods < FACE.length) {
            fault("only " + methods + " methods were found");
        }
    }
}
