import java.io.IOException;
import java.lang.reflect.Constructor;
import java.lang.reflect.Field;
import java.lang.reflect.Method;
import java.lang.reflect.Modifier;
import java.nio.file.Files;
import java.nio.file.Path;
import java.util.Arrays;
import java.util.HashSet;
import java.util.List;
import java.util.Set;
import java.util.TreeSet;
import java.util.regex.Pattern;

/** The public face, and those rules of LANGUAGE.md that a look at the file can tell. */
public final class FaceTest {
    private static final String[] METHODS = {
        "int define(int) IndexOutOfBoundsException IllegalStateException",
        "int copy(int,int) IndexOutOfBoundsException IllegalStateException",
        "int setModulus(int) IllegalArgumentException",
        "int type(char) IllegalStateException",
        "int clearText()",
        "int textError()",
        "int leastToDefine() IllegalStateException",
        "int undo() IllegalStateException",
        "int takeSnapshot()",
        "int restoreSnapshot() IllegalStateException",
        "int nodesOf(int) IndexOutOfBoundsException",
        "int unlikeNodesOf(int) IndexOutOfBoundsException",
        "int depthOf(int) IndexOutOfBoundsException",
        "int modulus()",
        "int valueAt(int,int) IndexOutOfBoundsException IllegalArgumentException",
        "int slopeByHinges(int,int) IndexOutOfBoundsException IllegalArgumentException",
        "int slopeByRules(int,int) IndexOutOfBoundsException IllegalArgumentException",
        "int chainByProducts(int,int,int) IndexOutOfBoundsException IllegalArgumentException",
        "int chainByFeeding(int,int,int) IndexOutOfBoundsException IllegalArgumentException",
        "int bansOf(int) IndexOutOfBoundsException",
        "int flatsOf(int) IndexOutOfBoundsException",
        "int firstFlat(int) IndexOutOfBoundsException",
        "int rootsOf(int) IndexOutOfBoundsException",
        "boolean isSame(int,int) IndexOutOfBoundsException",
        "int step(int,int) IndexOutOfBoundsException IllegalArgumentException",
        "int stepsToRoot(int,int) IndexOutOfBoundsException IllegalArgumentException",
        "int recordedStates()"};

    public static void main(String[] args) throws IOException {
        face();
        source(Files.readString(Path.of("src/main/java/HingeNumbers.java")));
        Checks.end();
    }

    private static void face() {
        Set<String> due = new TreeSet<>(Arrays.asList(METHODS));
        Set<String> found = new TreeSet<>();
        Set<String> hidden = new HashSet<>();
        for (Method method : HingeNumbers.class.getDeclaredMethods()) {
            if (Modifier.isPrivate(method.getModifiers())) {
                hidden.add(method.getName());
            } else {
                found.add(told(method));
                Checks.same(method + " is public", Modifier.isPublic(method.getModifiers()), true);
                Checks.same(method + " is no static", Modifier.isStatic(method.getModifiers()), false);
            }
        }
        Checks.same("methods " + found, found.equals(due), true);
        for (String method : METHODS) {
            String name = method.substring(method.indexOf(' ') + 1, method.indexOf('('));
            Checks.same("a private method " + name, hidden.contains(name), false);
        }
        for (Field field : HingeNumbers.class.getDeclaredFields()) {
            boolean isPublic = field.getName().equals("NONE");
            int due2 = isPublic ? Modifier.PUBLIC : Modifier.PRIVATE;
            int access = field.getModifiers() & (Modifier.PUBLIC | Modifier.PRIVATE | Modifier.PROTECTED);
            Checks.same("access of " + field, access, due2);
        }
        Constructor<?>[] constructors = HingeNumbers.class.getDeclaredConstructors();
        Checks.same("constructors", constructors.length, 1);
        Checks.same("it is public", Modifier.isPublic(constructors[0].getModifiers()), true);
        Checks.same("it takes nothing", constructors[0].getParameterCount(), 0);
        Checks.same("the class is final", Modifier.isFinal(HingeNumbers.class.getModifiers()), true);
        Checks.same("few classes", HingeNumbers.class.getDeclaredClasses().length <= 11, true);
        for (Class<?> inside : HingeNumbers.class.getDeclaredClasses()) {
            Checks.same(inside + " is static", Modifier.isStatic(inside.getModifiers()), true);
            Checks.same(inside + " is not public", Modifier.isPublic(inside.getModifiers()), false);
        }
    }

    private static String told(Method method) {
        StringBuilder text = new StringBuilder();
        text.append(method.getReturnType()).append(' ').append(method.getName()).append('(');
        for (int index = 0; index < method.getParameterCount(); index++) {
            text.append(index == 0 ? "" : ",").append(method.getParameterTypes()[index]);
        }
        text.append(')');
        for (Class<?> thrown : method.getExceptionTypes()) {
            text.append(' ').append(thrown.getSimpleName());
        }
        return text.toString();
    }

    private static void source(String source) {
        String code = source.replaceAll("(?s)/\\*.*?\\*/", "").replaceAll("//[^\n]*", "");
        List<String> banned = List.of("->", "::", "\\bcatch\\b", "\\btry\\b", "\\bfinally\\b", "\\bassert\\b",
                "\\bsynchronized\\b", "\\bpackage\\b", "Exact\\b", "\\bSystem\\b", "\\binstanceof\\b",
                "\\bequals\\b", "\\bhashCode\\b", "\\btoString\\b", "\"\\s*\\+", "\\+\\s*\"", "static\\s*\\{");
        for (String pattern : banned) {
            Checks.same("the program has " + pattern, Pattern.compile(pattern).matcher(code).find(), false);
        }
        Checks.same("signs above 127", source.chars().anyMatch(sign -> sign > 127), false);
        Checks.same("imports", code.split("\\bimport\\b", -1).length - 1, 1);
        Checks.same("it imports Arrays", code.contains("import java.util.Arrays;"), true);
        longestMethod(source.split("\n"));
    }

    private static void longestMethod(String[] lines) {
        int methods = 0;
        for (int first = 0; first < lines.length; first++) {
            String line = lines[first];
            if (line.matches(" {4,8}\\S.*\\(.*") && line.endsWith("{") || line.matches(" {12}throws .*\\{")) {
                String end = line.startsWith("        ") && !line.startsWith("            ") ? "        }" : "    }";
                int last = first;
                while (last < lines.length && !lines[last].equals(end)) {
                    last++;
                }
                methods++;
                Checks.same("the method of line " + (first + 1) + " is short", last - first < 60, true);
            }
        }
        Checks.same("methods were found", methods > 50, true);
    }
}
