import java.io.IOException;
import java.lang.reflect.Method;
import java.lang.reflect.Modifier;
import java.nio.file.Files;
import java.nio.file.Path;
import java.util.Arrays;
import java.util.HashSet;
import java.util.Set;
import java.util.TreeSet;
import java.util.regex.Matcher;
import java.util.regex.Pattern;

/** The face as the document writes it, and what LANGUAGE.md rules out, as far as the text shows it. */
public final class RuleTest {
    private static final Check CHECK = new Check();
    private static final Path SOURCE = Path.of("src/main/java/Latticeyard.java");
    private static final Path DOCUMENT = Path.of("../shared/DOC.md");

    public static void main(String[] args) throws IOException {
        Set<String> names = face();
        String code = withoutCommentsAndTexts(Files.readString(SOURCE));
        names(names);
        ruledOut(code);
        methodLengths(Files.readString(SOURCE));
        CHECK.end();
    }

    /** The public methods, compared with the lines of the document; answers their names. */
    private static Set<String> face() throws IOException {
        Set<String> due = new TreeSet<>();
        Matcher line = Pattern.compile("(?m)^    public (\\w+) (\\w+)\\((.*?)\\)(.*);$").matcher(Files.readString(DOCUMENT));
        while (line.find()) {
            String types = line.group(3).replaceAll("(\\w+) \\w+", "$1").replace(" ", "");
            due.add(line.group(1) + " " + line.group(2) + "(" + types + ")" + thrown(line.group(4)));
        }
        Set<String> got = new TreeSet<>();
        Set<String> names = new HashSet<>();
        for (Method method : Latticeyard.class.getDeclaredMethods()) {
            if (Modifier.isPrivate(method.getModifiers()) || method.isSynthetic()) {
                continue;
            }
            CHECK.yes(method.getName() + " is public", Modifier.isPublic(method.getModifiers()));
            names.add(method.getName());
            StringBuilder all = new StringBuilder(method.getReturnType() + " " + method.getName() + "(");
            for (Class<?> type : method.getParameterTypes()) {
                all.append(all.charAt(all.length() - 1) == '(' ? "" : ",").append(type);
            }
            all.append(")");
            for (Class<?> type : method.getExceptionTypes()) {
                all.append(" ").append(type.getSimpleName());
            }
            got.add(all.toString());
        }
        CHECK.due("the face", got.toString(), due.toString());
        CHECK.yes("the whole face", due.size() == 46);
        CHECK.due("constructors", Latticeyard.class.getConstructors().length, 1);
        CHECK.yes("final", Modifier.isFinal(Latticeyard.class.getModifiers()));
        for (java.lang.reflect.Field field : Latticeyard.class.getDeclaredFields()) {
            CHECK.yes(field + " is private", Modifier.isPrivate(field.getModifiers()));
        }
        return names;
    }

    private static String thrown(String clause) {
        return clause.replace(" throws", "").replace(",", "");
    }

    private static void names(Set<String> face) {
        CHECK.yes("some twelve classes", Latticeyard.class.getDeclaredClasses().length <= 12);
        check(Latticeyard.class, face);
        for (Class<?> inside : Latticeyard.class.getDeclaredClasses()) {
            CHECK.yes(inside + " is static", Modifier.isStatic(inside.getModifiers()));
            CHECK.yes(inside + " is not public", !Modifier.isPublic(inside.getModifiers()));
            check(inside, face);
        }
    }

    private static void check(Class<?> type, Set<String> face) {
        int fields = 0;
        for (java.lang.reflect.Field field : type.getDeclaredFields()) {
            boolean isStatic = Modifier.isStatic(field.getModifiers());
            CHECK.yes(field + " is no other state", !isStatic || Modifier.isFinal(field.getModifiers()));
            fields += isStatic ? 0 : 1;
        }
        CHECK.yes("fields of " + type, fields <= 20);
        for (Method method : type.getDeclaredMethods()) {
            boolean isOwn = type != Latticeyard.class || Modifier.isPrivate(method.getModifiers());
            CHECK.yes(method + " has no name of the face", !isOwn || !face.contains(method.getName()));
            CHECK.yes("parameters of " + method, method.getParameterCount() <= 7);
        }
    }

    private static String withoutCommentsAndTexts(String source) {
        return source.replaceAll("(?s)/\\*.*?\\*/", "").replaceAll("//.*", "").replaceAll("\"[^\"]*\"", "TEXT");
    }

    private static void ruledOut(String code) {
        String[] patterns = {"\\bcatch\\b", "\\btry\\b", "\\bfinally\\b", "->", "::", "\\bassert\\b",
            "\\bsynchronized\\b", "\\bwhile \\(true\\)", "\\bfor \\(;;\\)", "Exact\\(", "\\+ TEXT", "TEXT \\+",
            "\\bSystem\\.(?!arraycopy)", "\\bObject\\b", "\\bhashCode\\b", "\\btoString\\b", "\\bstatic \\{",
            "\\binstanceof\\b", "\\bnative\\b", "\\bpackage\\b", "\\bvar\\b", "\\bprotected\\b"};
        for (String pattern : patterns) {
            CHECK.yes("none of " + pattern, !Pattern.compile(pattern).matcher(code).find());
        }
        Matcher imported = Pattern.compile("(?m)^import (.*);$").matcher(code);
        while (imported.find()) {
            CHECK.yes(imported.group(1), Arrays.asList("java.util.Arrays", "java.util.NoSuchElementException")
                    .contains(imported.group(1)));
        }
        Matcher called = Pattern.compile("\\b(Math|Arrays)\\.(\\w+)").matcher(code);
        while (called.find()) {
            CHECK.yes(called.group(), Arrays.asList("abs", "min", "max", "floorDiv", "floorMod", "fill")
                    .contains(called.group(2)));
        }
        for (char sign : code.toCharArray()) {
            CHECK.yes("signs of 1 to 127", sign < 128);
        }
    }

    private static void methodLengths(String source) {
        int start = 0;
        String[] lines = source.split("\n");
        for (int number = 0; number < lines.length; number++) {
            CHECK.yes("width of line " + (number + 1), lines[number].length() <= 120);
            if (lines[number].matches("( {4}| {8})\\S.*\\{")) {
                start = lines[number].contains("class ") ? number : start;
                start = lines[number].contains("(") ? number : start;
            }
            if (lines[number].matches("( {4}| {8})\\}") && lines[start].contains("(")) {
                CHECK.yes("length of the method at line " + (start + 1), number - start <= 60);
            }
        }
    }
}
