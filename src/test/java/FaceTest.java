import java.io.IOException;
import java.lang.reflect.Constructor;
import java.lang.reflect.Field;
import java.lang.reflect.Method;
import java.lang.reflect.Modifier;
import java.nio.charset.StandardCharsets;
import java.nio.file.Files;
import java.nio.file.Path;
import java.util.ArrayList;
import java.util.Arrays;
import java.util.Collections;
import java.util.List;
import java.util.regex.Matcher;
import java.util.regex.Pattern;
import java.util.stream.Collectors;

/** The face of the class as ../shared/DOC.md shows it, and what of ../shared/LANGUAGE.md a text search can see. */
public final class FaceTest {
    private static final Path DOCUMENT = Path.of("../shared/DOC.md");
    private static final Path PROGRAM = Path.of("src/main/java/CardLine.java");

    public static void main(String[] args) throws IOException {
        face();
        others();
        constants();
        language(Files.readString(PROGRAM, StandardCharsets.UTF_8));
        Check.end("FaceTest");
    }

    private static void face() throws IOException {
        String document = Files.readString(DOCUMENT, StandardCharsets.UTF_8);
        String block = document.substring(document.indexOf("```java"), document.lastIndexOf("```"));
        List<String> due = new ArrayList<>();
        Matcher line = Pattern.compile("(?m)^ {4}(public .*\\)( throws [^;]*)?);$").matcher(block);
        while (line.find()) {
            due.add(line.group(1).replaceAll("(int|long|boolean) \\w+([,)])", "$1$2"));
        }
        List<String> got = new ArrayList<>();
        for (Constructor<?> made : CardLine.class.getConstructors()) {
            got.add("public CardLine()" + (made.getParameterCount() == 0 ? "" : "?"));
        }
        for (Method method : CardLine.class.getDeclaredMethods()) {
            if (Modifier.isPublic(method.getModifiers())) {
                got.add(told(method));
            }
        }
        Collections.sort(due);
        Collections.sort(got);
        Check.due("the face's calls", got.size(), 52 + 1);
        Check.dueText("the face", String.join("\n", got), String.join("\n", due));
        Check.due("final", Modifier.isFinal(CardLine.class.getModifiers()) ? 1 : 0, 1);
    }

    private static String told(Method method) {
        String throwing = Arrays.stream(method.getExceptionTypes()).map(Class::getSimpleName)
            .collect(Collectors.joining(", "));
        return Modifier.toString(method.getModifiers()) + " " + method.getReturnType() + " " + method.getName() + "("
            + Arrays.stream(method.getParameterTypes()).map(Class::getName).collect(Collectors.joining(", ")) + ")"
            + (throwing.isEmpty() ? "" : " throws " + throwing);
    }

    private static void others() {
        for (Field field : CardLine.class.getDeclaredFields()) {
            boolean constant = List.of("NONE", "FULL", "WRONG_STATE").contains(field.getName());
            Check.due(field.getName() + " is private or a constant of the face",
                Modifier.isPrivate(field.getModifiers()) || constant ? 1 : 0, 1);
            Check.due(field.getName() + " is final if it is static",
                Modifier.isFinal(field.getModifiers()) || !Modifier.isStatic(field.getModifiers()) ? 1 : 0, 1);
        }
        List<String> names = Arrays.stream(CardLine.class.getDeclaredMethods())
            .filter(m -> Modifier.isPublic(m.getModifiers())).map(Method::getName).collect(Collectors.toList());
        List<Class<?>> classes = new ArrayList<>(List.of(CardLine.class.getDeclaredClasses()));
        classes.add(CardLine.class);
        Check.due("at most 12 classes", classes.size() <= 12 ? 1 : 0, 1);
        for (Class<?> inside : classes) {
            Check.due(inside + " has at most 20 fields", Arrays.stream(inside.getDeclaredFields())
                .filter(f -> !Modifier.isStatic(f.getModifiers())).count() <= 20 ? 1 : 0, 1);
            for (Method method : inside.getDeclaredMethods()) {
                Check.due(method + " has at most 7 parameters", method.getParameterCount() <= 7 ? 1 : 0, 1);
                Check.due(method + " does not bear a name of the face",
                    inside != CardLine.class && names.contains(method.getName()) ? 1 : 0, 0);
                Check.due(method + " is public or private", inside != CardLine.class
                    || Modifier.isPublic(method.getModifiers()) || Modifier.isPrivate(method.getModifiers()) ? 1 : 0, 1);
            }
        }
        Check.due("each name of the face stands once in the class", Arrays.stream(CardLine.class.getDeclaredMethods())
            .filter(m -> names.contains(m.getName())).count(), names.size());
    }

    private static void constants() {
        Check.due("NONE", CardLine.NONE, -1);
        Check.due("FULL", CardLine.FULL, -2);
        Check.due("WRONG_STATE", CardLine.WRONG_STATE, -3);
    }

    private static void language(String source) {
        String code = source.replaceAll("(?s)/\\*.*?\\*/", "").replaceAll("//[^\n]*", "");
        String[] ruledOut = {"->", "::", "\\bcatch\\b", "\\btry\\b", "\\bfinally\\b", "\\bsynchronized\\b", "\\bassert\\b",
            "static \\{", "\\bpackage\\b", "\\bequals\\(", "\\bhashCode\\b", "\\btoString\\b", "\\bSystem\\.(?!arraycopy\\()",
            "import (?!java\\.util\\.(Arrays|ArrayList|List);)", "Math\\.(?!(min|max|abs|floorDiv|floorMod)\\()", "Exact\\b", "\\binstanceof\\b", "\\bvar\\b",
            "throw new (?!IndexOutOfBoundsException\\(\"|IllegalArgumentException\\(\")", "\\bprotected\\b", "\"\\s*\\+|\\+\\s*\""};
        for (String pattern : ruledOut) {
            Matcher found = Pattern.compile(pattern).matcher(code);
            Check.dueText("what is ruled out: " + pattern, found.find() ? found.group() : "", "");
        }
        int longest = 0;
        int begun = 0;
        String[] lines = code.split("\n");
        for (int number = 0; number < lines.length; number++) {
            if (lines[number].matches("( {4}){1,2}\\S.*\\) ?(throws .*)?\\{")) {
                begun = number;
            }
            if (lines[number].matches("( {4}){1,2}\\}")) {
                longest = Math.max(longest, number - begun + 1);
            }
        }
        Check.due("methods have at most 60 lines", longest <= 60 ? 1 : 0, 1);
    }
}
