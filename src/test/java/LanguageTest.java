import java.io.IOException;
import java.lang.reflect.Constructor;
import java.lang.reflect.Field;
import java.lang.reflect.Method;
import java.lang.reflect.Modifier;
import java.nio.file.Files;
import java.nio.file.Path;
import java.util.ArrayList;
import java.util.List;

/** Those rules of LANGUAGE.md that can be seen by the text of the class or by its parts. It runs in the project's folder. */
public final class LanguageTest {
    private static final Path SOURCE = Path.of("src/main/java/BrambleMesh.java");
    private static final Check CHECK = new Check();
    private static final String[] NOT_IN_TEXT = {
        "->", "::", "finally", "synchronized", "assert ", "static {", "@", "var ", "System.", "Thread", "Exact(", "Random",
        "catch", "String.", "getClass", "hashCode", "equals(", "toString", "interface ", "record ", "java.io", "java.time",
    };

    /** The text without comments and without what stands in quotes. */
    private static String codeOf(String text) {
        String code = text.replaceAll("(?s)/\\*.*?\\*/", " ").replaceAll("//[^\n]*", " ");
        return code.replaceAll("\"[^\"\n]*\"", "\"\"");
    }

    private static void text(String text) {
        String code = codeOf(text);
        for (String part : NOT_IN_TEXT) {
            CHECK.due("the text has no " + part, code.contains(part), false);
        }
        CHECK.due("no package", code.contains("package "), false);
        for (String line : code.split("\n")) {
            if (line.startsWith("import ")) {
                CHECK.due("what is imported: " + line, line.equals("import java.util.ArrayList;"), true);
            }
            if (line.contains("throw new")) {
                boolean isListed = line.matches(".*throw new (IndexOutOfBounds|IllegalArgument|IllegalState)Exception\\(\"\"\\);");
                CHECK.due("what is thrown: " + line, isListed, true);
            }
        }
        for (int i = 0; i < text.length(); i++) {
            char sign = text.charAt(i);
            CHECK.due("sign " + (int) sign, sign == '\n' || sign >= 32 && sign < 127, true);
        }
    }

    /** Lines from a method's head, four or eight blanks deep, to its last one. */
    private static void lengths(String text) {
        String[] lines = text.split("\n");
        for (int i = 0; i < lines.length; i++) {
            if (!lines[i].matches("(    |        )[a-zA-Z].*\\{") && !lines[i].matches("            throws .*\\{")) {
                continue;
            }
            boolean isMethod = lines[i].contains("(") || lines[i].contains("throws");
            String end = lines[i].startsWith("        ") && !lines[i].contains("throws ") ? "        }" : "    }";
            int last = i;
            while (last < lines.length && !lines[last].equals(end)) {
                last++;
            }
            if (isMethod && !lines[i].contains(" class ")) {
                CHECK.due("lines of " + lines[i].trim(), last - i <= 60, true);
            }
        }
    }

    private static List<Class<?>> all() {
        List<Class<?>> all = new ArrayList<>();
        all.add(BrambleMesh.class);
        all.addAll(List.of(BrambleMesh.class.getDeclaredClasses()));
        return all;
    }

    private static void parts() {
        CHECK.due("at most some twelve classes", all().size() <= 12, true);
        for (Class<?> type : all()) {
            int fields = 0;
            for (Field field : type.getDeclaredFields()) {
                boolean isStatic = Modifier.isStatic(field.getModifiers());
                fields += isStatic ? 0 : 1;
                CHECK.due(field + " is final, if it is static", isStatic && !Modifier.isFinal(field.getModifiers()), false);
            }
            CHECK.due("fields of " + type, fields <= 20, true);
            for (Method method : type.getDeclaredMethods()) {
                CHECK.due("parameters of " + method, method.getParameterCount() <= 7, true);
            }
            for (Constructor<?> constructor : type.getDeclaredConstructors()) {
                CHECK.due("parameters of " + constructor, constructor.getParameterCount() <= 7, true);
            }
            CHECK.due(type + " holds no other", type == BrambleMesh.class || type.getDeclaredClasses().length == 0, true);
            CHECK.due(type + " is static", type == BrambleMesh.class || Modifier.isStatic(type.getModifiers()), true);
            CHECK.due(type + " is no part of the face", type == BrambleMesh.class || Modifier.isPrivate(type.getModifiers()), true);
        }
    }

    public static void main(String[] args) throws IOException {
        String text = Files.readString(SOURCE);
        text(text);
        lengths(text);
        parts();
        CHECK.end();
    }
}
