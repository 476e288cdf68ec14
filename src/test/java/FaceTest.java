import java.io.IOException;
import java.lang.reflect.Constructor;
import java.lang.reflect.Field;
import java.lang.reflect.Method;
import java.lang.reflect.Modifier;
import java.nio.file.Files;
import java.nio.file.Path;
import java.util.ArrayList;
import java.util.Arrays;
import java.util.List;
import java.util.Set;
import java.util.TreeSet;
import java.util.regex.Matcher;
import java.util.regex.Pattern;

/** The public face, and those rules of LANGUAGE.md that can be seen from the text and the class file. */
public final class FaceTest {
    private static final Path SOURCE = Path.of("src/main/java/LeapNet.java");
    private static final int LONGEST_METHOD = 60;

    private static final String[] FACE = {
        "int status()", "boolean tray(int, int, int)", "boolean write(int, int, long)", "long read(int, int)",
        "boolean pour(int, int, int, int, int)", "boolean leap(int, int)", "int civil(int, int)", "int count(int, int)",
        "int clock(int)", "boolean step(int, int)", "long shows(int, int)", "int ahead(int, int)",
        "long off(int, int, int)", "long worst(int, int, int)", "int feed(int, int, int, int, int)",
        "int rules(int, int)", "int fault(int)", "int server(int)", "int notice(int, int, int, int, int)",
        "int told(int, int)", "int table(int, int)", "int misses(int)", "int stamp(int, int)", "int wrong()",
        "int blamed(int)", "int program(int)", "int run(int, int)", "int ran(int)", "long kept(int)",
        "int answers(int, int, int)", "int span(int)", "int lies(int)", "int find(int, int, int)", "int ask()",
        "boolean land(int, int, int, int)", "int local(int, int)", "int oft(int, int, int)",
    };

    public static void main(String[] args) throws IOException {
        face();
        otherMembers();
        fields();
        String text = withoutComments(Files.readString(SOURCE));
        words(text);
        methodLengths(text);
        imports(text);
        Check.end("FaceTest");
    }

    private static void face() {
        Check.due("NONE", LeapNet.NONE, -1);
        Check.due("the class is public and final", Modifier.isPublic(LeapNet.class.getModifiers())
            && Modifier.isFinal(LeapNet.class.getModifiers()), true);
        Set<String> got = new TreeSet<>();
        for (Method method : LeapNet.class.getDeclaredMethods()) {
            if (Modifier.isPublic(method.getModifiers())) {
                got.add(signature(method));
            }
        }
        Set<String> due = new TreeSet<>(Arrays.asList(FACE));
        dueSame("public methods", got, due);
    }

    private static void dueSame(String what, Set<String> got, Set<String> due) {
        Check.due(what + " " + got + " for " + due, got.equals(due), true);
    }

    private static String signature(Method method) {
        List<String> types = new ArrayList<>();
        for (Class<?> type : method.getParameterTypes()) {
            types.add(type.getName());
        }
        return method.getReturnType().getName() + " " + method.getName() + "(" + String.join(", ", types) + ")";
    }

    /** Rule 1: what is not of the face is private, and bears no name of the face. */
    private static void otherMembers() {
        Set<String> names = new TreeSet<>();
        for (String signature : FACE) {
            names.add(signature.substring(signature.indexOf(' ') + 1, signature.indexOf('(')));
        }
        for (Constructor<?> constructor : LeapNet.class.getDeclaredConstructors()) {
            Check.due("constructor " + constructor, Modifier.isPublic(constructor.getModifiers())
                && constructor.getParameterCount() == 0, true);
        }
        for (Class<?> type : classes()) {
            for (Method method : type.getDeclaredMethods()) {
                boolean isFace = type == LeapNet.class && Modifier.isPublic(method.getModifiers());
                Check.due("name of " + method, isFace || !names.contains(method.getName()), true);
                Check.due("parameters of " + method, method.getParameterCount() <= 7, true);
                if (type == LeapNet.class && !isFace) {
                    Check.due("private " + method, Modifier.isPrivate(method.getModifiers()), true);
                }
            }
            if (type != LeapNet.class) {
                Check.due("static " + type, Modifier.isStatic(type.getModifiers()), true);
            }
        }
        Check.due("twelve classes", classes().size() <= 12, true);
    }

    private static List<Class<?>> classes() {
        List<Class<?>> all = new ArrayList<>();
        all.add(LeapNet.class);
        all.addAll(Arrays.asList(LeapNet.class.getDeclaredClasses()));
        return all;
    }

    /** Rules 3, 5 and 11. */
    private static void fields() {
        for (Class<?> type : classes()) {
            int many = 0;
            for (Field field : type.getDeclaredFields()) {
                boolean isConstant = Modifier.isStatic(field.getModifiers());
                many += isConstant ? 0 : 1;
                boolean isFace = type == LeapNet.class && field.getName().equals("NONE");
                Check.due("private " + field, isFace || Modifier.isPrivate(field.getModifiers()), true);
                Check.due("final " + field, !isConstant || Modifier.isFinal(field.getModifiers()), true);
                Check.due("a constant of a plain type " + field, !isConstant || field.getType().isPrimitive()
                    || field.getType() == String.class, true);
            }
            Check.due("fields of " + type + ": " + many, many <= 20, true);
        }
    }

    private static String withoutComments(String text) {
        String withoutBlocks = Pattern.compile("/\\*.*?\\*/", Pattern.DOTALL).matcher(text).replaceAll("");
        String withoutLines = withoutBlocks.replaceAll("(?m)//.*$", "");
        return withoutLines.replaceAll("\"[^\"\n]*\"", "\"\"").replaceAll("'(\\\\.|[^'])'", "' '");
    }

    /** Rules 2, 3, 4, 6 and 13. */
    private static void words(String text) {
        String[] none = {"\\bthrow\\b", "\\bthrows\\b", "\\btry\\b", "\\bcatch\\b", "\\bsynchronized\\b", "\\bassert\\b",
            "\\bpackage\\b", "->", "::", "\\bprotected\\b", "\\bSystem\\.(?!arraycopy)", "\\w+Exact\\b", "\\bhashCode\\b",
            "\\btoString\\b", "\\bequals\\b", "\\bThread\\b", "\\bRandom\\b", "\\bdouble\\b", "\\bfloat\\b", "\\bvar\\b",
            "\\bObject\\b", "\\bstatic\\s*\\{", "\"\"\\s*\\+", "\\+\\s*\"\"", "\\binterface\\b", "\\bextends\\b",
            "\\bMath\\.(?!min|max|abs|floorMod|floorDiv)", "\\bLong\\.", "\\bInteger\\.(?!bitCount)"};
        for (String pattern : none) {
            Matcher matcher = Pattern.compile(pattern).matcher(text);
            Check.due("no " + pattern, matcher.find(), false);
        }
    }

    /** Rule 11. */
    private static void methodLengths(String text) {
        String[] lines = text.split("\n");
        int from = -1;
        for (int i = 0; i < lines.length; i++) {
            if (lines[i].matches(" {4}( {4})?\\S.*\\) \\{$") && !lines[i].matches(".*\\b(if|for|while|switch|else)\\b.*")) {
                from = i;
            }
            if (from >= 0 && lines[i].matches(" {4}( {4})?\\}$")) {
                Check.due("length of " + lines[from].trim(), i - from + 1 <= LONGEST_METHOD, true);
                from = -1;
            }
        }
    }

    private static void imports(String text) {
        Matcher matcher = Pattern.compile("(?m)^import (.*);$").matcher(text);
        while (matcher.find()) {
            Check.due("import " + matcher.group(1), Set.of("java.util.ArrayList", "java.util.List", "java.util.Arrays")
                .contains(matcher.group(1)), true);
        }
    }
}
