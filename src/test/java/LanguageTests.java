import java.io.IOException;
import java.lang.reflect.Constructor;
import java.lang.reflect.Field;
import java.lang.reflect.Method;
import java.lang.reflect.Modifier;
import java.nio.file.Files;
import java.nio.file.Path;
import java.util.ArrayList;
import java.util.List;
import java.util.Map;
import java.util.Set;
import java.util.TreeMap;
import java.util.TreeSet;
import java.util.regex.Matcher;
import java.util.regex.Pattern;

/** The rules of ../shared/LANGUAGE.md that can be read off the text of the program or off its compiled class. */
public final class LanguageTests {
    private static final String SOURCE = "src/main/java/TrialBoots.java";
    private static final String[] METHODS = {"begin(int,int,int,int)int", "count(int)int", "damage(int,int,int)int", "fault()int",
        "fill(int,int)int", "fillAll(int)int", "finish(int)int", "ifPassed(int,int)int", "ifStarted(boolean)int",
        "lasts(int,int)int", "nextStart()int", "padSum()int", "pass(int)int", "past(int,int)int", "put(long)int",
        "repair(int)int", "restore(int)int", "save(int)int", "set(int,int)int", "slot(int,int)int", "start(boolean)int",
        "undo()int", "wear(int,int)int", "wipe()int", "word(int,int)int"};
    private static final Set<String> CONSTANTS = Set.of("NO_SUCH", "BAD_VALUE", "BAD_TEXT", "TOO_MANY", "NOT_POSSIBLE", "NONE",
        "TRIES", "PATIENCE", "ENDURANCE", "EMPTY", "FILLING", "TRIAL", "CONFIRMED", "BAD");
    private static final String[] FORBIDDEN = {"\\bthrow\\b", "\\bthrows\\b", "\\btry\\b", "\\bcatch\\b", "\\bfinally\\b",
        "\\bsynchronized\\b", "\\bassert\\b", "\\bpackage\\b", "\\bprotected\\b", "->", "::", "\\w+Exact\\b", "static\\s*\\{", "\\bvar\\b",
        "\\byield\\b", "\\bhashCode\\b", "\\btoString\\b", "\\bThread\\b", "\\bnanoTime\\b", "\\bcurrentTimeMillis\\b", "\\brandom\\b"};

    private static int wrong = 0;

    public static void main(String[] args) throws IOException {
        String code = withoutComments(Files.readString(Path.of(SOURCE)));
        forbiddenWords(code);
        face();
        insideClasses();
        lengthOfMethods();
        depthOfCalls(code);
        System.out.println(wrong == 0 ? "the rules hold" : wrong + " rules are broken");
        if (wrong != 0) {
            System.exit(1);
        }
    }

    private static void broken(String text) {
        wrong++;
        System.out.println(text);
    }

    private static String withoutComments(String text) {
        return text.replaceAll("(?s)/\\*.*?\\*/", "").replaceAll("//[^\n]*", "");
    }

    private static void forbiddenWords(String code) {
        for (String word : FORBIDDEN) {
            Matcher found = Pattern.compile(word).matcher(code);
            if (found.find()) {
                broken("rules 4, 6, 13: " + found.group());
            }
        }
        Matcher imports = Pattern.compile("import\\s+([\\w.]+)").matcher(code);
        while (imports.find()) {
            if (!Set.of("java.util.Arrays", "java.util.ArrayList", "java.util.List").contains(imports.group(1))) {
                broken("rule 4: import " + imports.group(1));
            }
        }
    }

    private static void face() {
        Class<?> program = TrialBoots.class;
        if (program.getModifiers() != (Modifier.PUBLIC | Modifier.FINAL)) {
            broken("rule 1: the class is public and final");
        }
        Set<String> open = new TreeSet<>();
        for (Method method : program.getDeclaredMethods()) {
            if (!Modifier.isPrivate(method.getModifiers()) && !method.isSynthetic()) {
                open.add(signature(method));
            } else if (names().contains(method.getName())) {
                broken("rule 1: a private method bears a public name: " + method.getName());
            }
        }
        if (!open.equals(Set.of(METHODS))) {
            broken("rule 1: the methods of the face are " + open);
        }
        for (Field field : program.getDeclaredFields()) {
            boolean isPrivate = Modifier.isPrivate(field.getModifiers());
            if (isPrivate == CONSTANTS.contains(field.getName())) {
                broken("rule 1: " + field.getName());
            }
            if (Modifier.isStatic(field.getModifiers()) && !Modifier.isFinal(field.getModifiers())) {
                broken("rule 5: " + field.getName());
            }
        }
        Constructor<?>[] constructors = program.getDeclaredConstructors();
        if (constructors.length != 1 || !Modifier.isPublic(constructors[0].getModifiers())
            || constructors[0].getParameterCount() != 0) {
            broken("rule 1: the constructor");
        }
    }

    private static Set<String> names() {
        Set<String> names = new TreeSet<>();
        for (String method : METHODS) {
            names.add(method.substring(0, method.indexOf('(')));
        }
        return names;
    }

    private static String signature(Method method) {
        List<String> types = new ArrayList<>();
        for (Class<?> type : method.getParameterTypes()) {
            types.add(type.getName());
        }
        return method.getName() + "(" + String.join(",", types) + ")" + method.getReturnType().getName();
    }

    private static void insideClasses() {
        Class<?>[] inside = TrialBoots.class.getDeclaredClasses();
        if (inside.length > 11) {
            broken("rule 11: " + inside.length + " classes inside");
        }
        for (Class<?> one : inside) {
            if (!Modifier.isStatic(one.getModifiers()) || Modifier.isPublic(one.getModifiers())) {
                broken("rule 2: " + one.getName());
            }
            if (one.getDeclaredFields().length > 20) {
                broken("rule 11: the fields of " + one.getName());
            }
            for (Method method : one.getDeclaredMethods()) {
                if (names().contains(method.getName()) || method.getParameterCount() > 7) {
                    broken("rules 1, 11: " + one.getName() + "." + method.getName());
                }
            }
        }
    }

    private static void lengthOfMethods() throws IOException {
        List<String> lines = Files.readAllLines(Path.of(SOURCE));
        int start = -1;
        for (int i = 0; i < lines.size(); i++) {
            String line = lines.get(i);
            if (line.matches(" {4,8}[\\w\\[\\] ]+\\([^;]*\\) \\{") && !line.trim().startsWith("if")) {
                start = i;
            }
            if (start >= 0 && line.equals(lines.get(start).replaceAll("\\S.*", "") + "}")) {
                if (i - start > 60) {
                    broken("rule 11: a long method at line " + (start + 1));
                }
                start = -1;
            }
        }
    }

    /** Methods of one name are taken as one, so that the depth may be found too great, but not too small. */
    private static void depthOfCalls(String code) {
        Map<String, Set<String>> calls = new TreeMap<>();
        Matcher method = Pattern.compile("(?ms)^( {4}| {8})(?:[\\w\\[\\]]+ )+(\\w+)\\([^;{]*\\) \\{\n(.*?)^\\1\\}").matcher(code);
        for (int from = 0; method.find(from); from = method.end(2)) {
            if (!method.group().contains(" class ")) {
                calls.computeIfAbsent(method.group(2), name -> new TreeSet<>()).addAll(callsIn(method.group(3)));
            }
        }
        if (!calls.keySet().containsAll(names())) {
            broken("rule 11: not all methods were found: " + calls.keySet());
        }
        for (String name : names()) {
            int depth = depthOf(name, calls, 0);
            if (depth > 8) {
                broken("rule 11: the calls of " + name + " go deeper than eight");
            }
        }
    }

    private static Set<String> callsIn(String body) {
        Set<String> called = new TreeSet<>();
        Matcher call = Pattern.compile("(\\w+)\\(").matcher(body);
        while (call.find()) {
            called.add(call.group(1));
        }
        return called;
    }

    private static int depthOf(String name, Map<String, Set<String>> calls, int above) {
        int deepest = 0;
        for (String called : calls.get(name)) {
            if (above < 20 && calls.containsKey(called) && !called.equals(name)) {
                deepest = Math.max(deepest, depthOf(called, calls, above + 1));
            }
        }
        return deepest + 1;
    }
}
