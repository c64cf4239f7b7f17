import java.lang.reflect.Constructor;
import java.lang.reflect.Field;
import java.lang.reflect.Method;
import java.lang.reflect.Modifier;
import java.nio.file.Files;
import java.nio.file.Path;
import java.util.ArrayList;
import java.util.Collections;
import java.util.HashSet;
import java.util.List;
import java.util.Set;
import java.util.regex.Matcher;
import java.util.regex.Pattern;

/** The face of the document, and what of LANGUAGE.md can be seen from outside: rules 1 to 6, 10, 11 and 13. */
public final class LanguageTest {
    private static final String SOURCE = "src/main/java/EscheatLots.java";

    private static final String[] FACE = {
        "int set(int, int)", "int lot(int)", "int notice(int)", "int claim(int, int, int)", "int prove(int, int)",
        "int decide(int)", "int withdraw(int)", "int settle(int)", "int pass(int)", "int of(int, int)",
        "int ofClaim(int, int)", "int heir(int, int)", "int paid(int)", "int count(int)", "int why(int)",
        "int fallsIn(int)", "int share(int, int, int)", "int nextFall(int)", "int nextLapse(int)", "int put(long)",
        "int wipe()", "int fault()", "int carryOut()", "int undo()", "int save(int)", "int restore(int)",
    };

    private static final String[] CONSTANTS = {
        "NO_SUCH = -1", "BAD_VALUE = -2", "BAD_TEXT = -3", "TOO_MANY = -4", "NOT_POSSIBLE = -5", "NONE = -6",
        "TERM = 0", "PROOF = 1", "LAPSE = 2", "BACK = 3", "FEE = 4",
    };

    private static final String[] FORBIDDEN = {
        "throw", "throws", "try", "catch", "finally", "synchronized", "assert", "import", "package", "volatile",
        "transient", "native", "lambda", "instanceof", "Object", "Thread", "Random", "hashCode", "toString", "equals",
        "getClass", "Exception",
    };

    public static void main(String[] args) throws Exception {
        String code = withoutCommentsAndTexts(Files.readString(Path.of(SOURCE)));
        face();
        constants();
        classes();
        words(code);
        library(code);
        lengths();
        Due.end();
    }

    private static void same(String name, List<String> got, List<String> want) {
        Collections.sort(got);
        Collections.sort(want);
        Due.due(name, String.join("\n  ", got), String.join("\n  ", want));
    }

    private static String signature(Method method) {
        List<String> types = new ArrayList<>();
        for (Class<?> type : method.getParameterTypes()) {
            types.add(type.getSimpleName());
        }
        return method.getReturnType().getSimpleName() + " " + method.getName() + "(" + String.join(", ", types) + ")";
    }

    private static void face() {
        Due.due("public and final", Modifier.toString(EscheatLots.class.getModifiers()), "public final");
        List<String> open = new ArrayList<>();
        Set<String> names = new HashSet<>();
        for (Method method : EscheatLots.class.getDeclaredMethods()) {
            if (!Modifier.isPrivate(method.getModifiers())) {
                Due.due(method.getName(), Modifier.toString(method.getModifiers()), "public");
                open.add(signature(method));
                names.add(method.getName());
            }
        }
        same("the face", open, new ArrayList<>(List.of(FACE)));
        for (Class<?> type : allClasses()) {
            for (Method method : type.getDeclaredMethods()) {
                boolean hidden = type != EscheatLots.class || Modifier.isPrivate(method.getModifiers());
                Due.due("a hidden method bears a public name: " + method, hidden && names.contains(method.getName()) ? 1 : 0, 0);
                Due.due("parameters: " + method, method.getParameterCount() <= 7 ? 1 : 0, 1);
            }
        }
        Constructor<?>[] constructors = EscheatLots.class.getDeclaredConstructors();
        Due.due("constructors", constructors.length, 1);
        Due.due("the constructor's parameters", constructors[0].getParameterCount(), 0);
        Due.due("the constructor", Modifier.toString(constructors[0].getModifiers()), "public");
    }

    private static void constants() throws IllegalAccessException {
        List<String> open = new ArrayList<>();
        for (Field field : EscheatLots.class.getDeclaredFields()) {
            if (!Modifier.isPrivate(field.getModifiers())) {
                Due.due(field.getName(), Modifier.toString(field.getModifiers()) + " " + field.getType(), "public static final int");
                open.add(field.getName() + " = " + field.getInt(null));
            }
        }
        same("the constants", open, new ArrayList<>(List.of(CONSTANTS)));
    }

    private static List<Class<?>> allClasses() {
        List<Class<?>> all = new ArrayList<>(List.of(EscheatLots.class.getDeclaredClasses()));
        all.add(EscheatLots.class);
        return all;
    }

    private static void classes() {
        Due.due("some twelve classes", allClasses().size() <= 12 ? 1 : 0, 1);
        for (Class<?> type : allClasses()) {
            if (type != EscheatLots.class) {
                Due.due(type + " is static", Modifier.isStatic(type.getModifiers()) ? 1 : 0, 1);
                Due.due(type + " is hidden", Modifier.isPublic(type.getModifiers()) ? 1 : 0, 0);
                Due.due("classes inside " + type, type.getDeclaredClasses().length, 0);
            }
            int fields = 0;
            for (Field field : type.getDeclaredFields()) {
                boolean fixed = Modifier.isStatic(field.getModifiers());
                fields += fixed ? 0 : 1;
                Due.due("static and not final: " + field, fixed && !Modifier.isFinal(field.getModifiers()) ? 1 : 0, 0);
            }
            Due.due("some twenty fields in " + type, fields <= 20 ? 1 : 0, 1);
        }
    }

    private static String withoutCommentsAndTexts(String source) {
        return source.replaceAll("(?s)/\\*.*?\\*/", " ").replaceAll("//[^\n]*", " ")
            .replaceAll("'[^'\\\\]'", "0").replaceAll("\"[^\"]*\"", "#");
    }

    private static void words(String code) {
        for (String word : FORBIDDEN) {
            Due.due("the word " + word, Pattern.compile("\\b" + word + "\\b").matcher(code).find() ? 1 : 0, 0);
        }
        for (String sign : new String[] {"->", "::", "@", "static {", "#"}) {
            Due.due("the sign " + sign, code.contains(sign) ? 1 : 0, 0);
        }
    }

    /** Of the library only what the class uses, all of which rule 4 names. */
    private static void library(String code) {
        Set<String> allowed = Set.of("Math.max", "Math.min", "Integer.bitCount", "System.arraycopy");
        Matcher uses = Pattern.compile("\\b[A-Z][a-z]\\w*\\.\\w+").matcher(code);
        while (uses.find()) {
            Due.due("the library's " + uses.group(), allowed.contains(uses.group()) ? 1 : 0, 1);
        }
        Set<String> own = Set.of("EscheatLots", "Office", "Lots", "Claims", "Pad");
        Matcher made = Pattern.compile("\\bnew\\s+(\\w+)").matcher(code);
        while (made.find()) {
            boolean known = own.contains(made.group(1)) || Set.of("int", "char", "boolean").contains(made.group(1));
            Due.due("makes " + made.group(1), known ? 1 : 0, 1);
        }
    }

    /** Methods stay under some sixty lines. */
    private static void lengths() throws Exception {
        List<String> lines = Files.readAllLines(Path.of(SOURCE));
        Pattern head = Pattern.compile("^( {4}| {8})(?!private static final class)[\\w<\\[\\]][^;=]*\\) \\{$");
        for (int i = 0; i < lines.size(); i++) {
            Matcher start = head.matcher(lines.get(i));
            if (start.matches() && !lines.get(i).trim().matches("(if|for|while|switch|else).*")) {
                int end = i;
                while (!lines.get(end).equals(start.group(1) + "}")) {
                    end++;
                }
                Due.due("lines of " + lines.get(i).trim() + " " + (end - i), end - i < 60 ? 1 : 0, 1);
            }
            Due.due("the width of line " + (i + 1), lines.get(i).length() <= 120 ? 1 : 0, 1);
        }
    }
}
