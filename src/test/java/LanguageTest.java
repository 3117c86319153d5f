import java.io.IOException;
import java.lang.reflect.Field;
import java.lang.reflect.Method;
import java.lang.reflect.Modifier;
import java.nio.file.Files;
import java.nio.file.Path;
import java.util.List;
import java.util.regex.Matcher;
import java.util.regex.Pattern;

/** The rules of ../shared/LANGUAGE.md that the source shows without being run. */
public final class LanguageTest {
    private static final Checks CHECKS = new Checks("LanguageTest");
    private static final List<String> FACE = List.of("poly", "make", "drop", "number", "of", "value", "chain",
        "changes", "roots", "within", "bound", "fence", "times", "shared", "sign", "signs", "which", "fraction",
        "feed", "reads", "prints", "paper", "judge", "lots", "list", "set", "get", "into", "image", "back", "count");

    private static final List<String> CONSTANTS = List.of("BAD", "NOT", "FULL", "STATE", "NO");

    public static void main(String[] args) throws IOException {
        String source = Files.readString(Path.of("src/main/java/RootFence.java"));
        String code = source.replaceAll("(?s)/\\*.*?\\*/", "").replaceAll("//[^\n]*", "")
            .replaceAll("\"[^\"\n]*\"", "\"\"");
        words(code);
        face(code);
        sizes(source);
        noneMadeInCalls(code);
        CHECKS.end();
    }

    private static int many(String pattern, String code) {
        Matcher matcher = Pattern.compile(pattern).matcher(code);
        int many = 0;
        while (matcher.find()) {
            many++;
        }
        return many;
    }

    private static void words(String code) {
        String[] none = {"\\bthrow\\b", "\\bthrows\\b", "\\btry\\b", "\\bcatch\\b", "\\bassert\\b", "\\bsynchronized\\b",
            "->", "::", "\\bimport\\b", "\\bpackage\\b", "\\bprotected\\b", "\\bobject\\b", "\\bSystem\\.(?!arraycopy)",
            "Exact\\b", "\\bRandom\\b", "\\bThread\\b", "\\bnew \\w+\\([^)]*\\) *\\{", "\" *\\+", "\\+ *\""};
        for (String word : none) {
            CHECKS.due("how many " + word, many(word, code), 0);
        }
    }

    /** Rule 1, as the compiled class shows it. */
    private static void face(String code) {
        int shown = 0;
        for (Method method : RootFence.class.getDeclaredMethods()) {
            if (!Modifier.isPrivate(method.getModifiers()) && !method.isSynthetic()) {
                shown++;
                CHECKS.due(method.getName() + " is of the face", FACE.contains(method.getName()) ? 1 : 0, 1);
                CHECKS.due(method.getName() + " is public", Modifier.isPublic(method.getModifiers()) ? 1 : 0, 1);
            } else {
                CHECKS.due("private " + method.getName(), FACE.contains(method.getName()) ? 1 : 0, 0);
            }
        }
        CHECKS.due("calls", shown, FACE.size());
        int constants = 0;
        for (Field field : RootFence.class.getDeclaredFields()) {
            if (!Modifier.isPrivate(field.getModifiers())) {
                constants++;
                CHECKS.due(field.getName() + " is of the face", CONSTANTS.contains(field.getName()) ? 1 : 0, 1);
            }
        }
        CHECKS.due("constants", constants, CONSTANTS.size());
        CHECKS.due("constructors", RootFence.class.getDeclaredConstructors().length, 1);
        CHECKS.due("public and final", Modifier.isFinal(RootFence.class.getModifiers()) ? 1 : 0, 1);
        for (String name : FACE) {
            CHECKS.due("others named " + name, many("(?m)^ {4,}(?!public|return)[\\w\\[\\] ]*\\w " + name + "\\([^;]*\\{$", code), 0);
        }
        for (Class<?> inside : RootFence.class.getDeclaredClasses()) {
            CHECKS.due(inside.getName() + " is static", Modifier.isStatic(inside.getModifiers()) ? 1 : 0, 1);
            CHECKS.due(inside.getName() + " is public", Modifier.isPublic(inside.getModifiers()) ? 1 : 0, 0);
        }
        CHECKS.due("classes at most", Math.max(12, RootFence.class.getDeclaredClasses().length + 1), 12);
    }

    /** All calls of a run live in one room: what is made is made with the object, in fields and in constructors. */
    private static void noneMadeInCalls(String code) {
        int inFields = many("(?m)^ {4,8}private (final )?[\\w\\[\\]]+ \\w+ = new \\w+[\\[(]", code);
        int inConstructors = many("(?m)^ {8}[A-Z]\\w*\\([^)]*\\) \\{(\n {12,}[^\n]*)*\n {16}\\w+\\[i\\] = new ", code);
        CHECKS.due("new in fields and constructors", inFields + inConstructors, many("\\bnew\\b", code));
    }

    private static void sizes(String source) {
        String[] lines = source.split("\n");
        int begin = -1;
        String indent = "";
        for (int i = 0; i < lines.length; i++) {
            Matcher opened = Pattern.compile("^( {4}| {8})(?! )[\\w\\[\\] ]+\\([^;]*\\) \\{$").matcher(lines[i]);
            if (begin < 0 && opened.find()) {
                begin = i;
                indent = opened.group(1);
                CHECKS.due("parameters at most 7: " + lines[i], Math.max(6, many(",", lines[i])), 6);
            } else if (begin >= 0 && lines[i].equals(indent + "}")) {
                CHECKS.due("lines at most 60: " + lines[begin], Math.max(60, i - begin + 1), 60);
                begin = -1;
            }
            CHECKS.due("signs below 128, line " + (i + 1), many("[^ -~]", lines[i]), 0);
        }
    }
}
