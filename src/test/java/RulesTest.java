import java.io.IOException;
import java.lang.reflect.Field;
import java.lang.reflect.Method;
import java.lang.reflect.Modifier;
import java.nio.file.Files;
import java.nio.file.Path;
import java.util.HashSet;
import java.util.List;
import java.util.Set;
import java.util.regex.Matcher;
import java.util.regex.Pattern;

/** LANGUAGE.md, as far as the class and its source can be looked at: the face, what is ruled out. */
public final class RulesTest {
    private static final Path PROGRAM = Path.of("src/main/java/OrderMerge.java");
    private static final Path DOCUMENT = Path.of("../shared/DOC.md");
    private static final int METHOD_LINES = 60;
    private static final Check CHECK = new Check();

    public static void main(String[] args) throws IOException {
        face();
        inside();
        source();
        CHECK.end();
    }

    private static void sure(String what, boolean so) {
        CHECK.due(what, so ? 1 : 0, 1);
    }

    /** Every line of the document's face stands in the class, and nothing else is open. */
    private static void face() throws IOException {
        Set<String> open = new HashSet<>();
        Matcher line = Pattern.compile("    public (int|long) (\\w+)\\((.*)\\);").matcher(Files.readString(DOCUMENT));
        while (line.find()) {
            String types = line.group(3).replaceAll(" \\w+(, |$)", "$1");
            open.add(line.group(1) + " " + line.group(2) + "(" + types + ")");
        }
        sure("the document has a face", open.size() == 48);
        Set<String> names = new HashSet<>();
        for (Method m : OrderMerge.class.getDeclaredMethods()) {
            if (Modifier.isPrivate(m.getModifiers())) {
                continue;
            }
            StringBuilder types = new StringBuilder();
            for (Class<?> type : m.getParameterTypes()) {
                types.append(types.length() > 0 ? ", " : "").append(type.getName());
            }
            sure("face: " + m, open.remove(m.getReturnType().getName() + " " + m.getName() + "(" + types + ")"));
            names.add(m.getName());
        }
        sure("not in the class: " + open, open.isEmpty());
        for (Method m : OrderMerge.class.getDeclaredMethods()) {
            sure("a private " + m.getName(), !Modifier.isPrivate(m.getModifiers()) || !names.contains(m.getName()));
        }
        for (Field f : OrderMerge.class.getDeclaredFields()) {
            sure("field " + f.getName(), f.getName().equals("NONE") || Modifier.isPrivate(f.getModifiers()));
        }
        sure("one constructor", OrderMerge.class.getConstructors().length == 1);
        sure("final", Modifier.isFinal(OrderMerge.class.getModifiers()));
    }

    private static void inside() {
        Class<?>[] all = OrderMerge.class.getDeclaredClasses();
        sure("some twelve classes", all.length <= 12);
        for (Class<?> one : all) {
            sure(one + " is static", Modifier.isStatic(one.getModifiers()));
            sure(one + " isn't open", !Modifier.isPublic(one.getModifiers()));
            int fields = 0;
            for (Field f : one.getDeclaredFields()) {
                boolean isStatic = Modifier.isStatic(f.getModifiers());
                fields += isStatic ? 0 : 1;
                sure("static " + f, !isStatic || Modifier.isFinal(f.getModifiers()));
            }
            sure("fields of " + one, fields <= 20);
            for (Method m : one.getDeclaredMethods()) {
                sure("parameters of " + m, m.getParameterCount() <= 7);
            }
        }
    }

    private static void source() throws IOException {
        String text = Files.readString(PROGRAM);
        String code = text.replaceAll("(?s)/\\*.*?\\*/", "").replaceAll("//.*", "").replaceAll("\"[^\"]*\"", "\"\"");
        for (String word : List.of("throw", "throws", "try", "catch", "synchronized", "assert", "package", "protected",
            "record", "var", "double", "float", "Random", "System.out", "nanoTime", "Thread")) {
            sure("the word " + word, !Pattern.compile("\\b" + Pattern.quote(word) + "\\b").matcher(code).find());
        }
        for (String sign : List.of("->", "::", "Exact(", "...", "@")) {
            sure("the sign " + sign, !code.contains(sign));
        }
        Matcher imports = Pattern.compile("import (.*);").matcher(code);
        while (imports.find()) {
            sure("import " + imports.group(1), imports.group(1).equals("java.util.Arrays"));
        }
        for (char sign : text.toCharArray()) {
            if (sign != '\n' && (sign < 32 || sign > 126)) {
                sure("the sign " + (int) sign, false);
            }
        }
        lengths(text.split("\n"));
    }

    private static void lengths(String[] lines) {
        Pattern head = Pattern.compile("( +)(?:public |private |static )*[\\w\\[\\]]+ ?(\\w+)\\(.*\\) \\{");
        int begin = -1;
        String end = "";
        for (int i = 0; i < lines.length; i++) {
            Matcher m = head.matcher(lines[i]);
            if (begin < 0 && m.matches() && !m.group(2).matches("if|for|while|switch")) {
                begin = i;
                end = m.group(1) + "}";
            } else if (begin >= 0 && lines[i].equals(end)) {
                sure("length of " + lines[begin].trim(), i - begin + 1 <= METHOD_LINES);
                begin = -1;
            }
            sure("width of line " + (i + 1), lines[i].length() <= 110);
        }
    }
}
