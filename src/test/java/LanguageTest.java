import java.io.IOException;
import java.lang.reflect.Constructor;
import java.lang.reflect.Field;
import java.lang.reflect.Method;
import java.lang.reflect.Modifier;
import java.nio.file.Files;
import java.nio.file.Path;
import java.util.ArrayList;
import java.util.Arrays;
import java.util.List;
import java.util.Set;
import java.util.TreeSet;
import java.util.regex.Matcher;
import java.util.regex.Pattern;

/** The rules of ../shared/LANGUAGE.md that can be seen from the class and its text, and the document's face. */
public final class LanguageTest {
    private static final Check CHECK = new Check();
    private static final Path SOURCE = Path.of("src/main/java/HedgePark.java");
    private static final Path DOCUMENT = Path.of("../shared/DOC.md");

    private static void face() throws IOException {
        Set<String> due = new TreeSet<>();
        Matcher told = Pattern.compile("(?m)^    public (?:static final )?([a-z]+ )?(\\w+)\\(([^)]*)\\)( throws [^;]*)?;")
                .matcher(Files.readString(DOCUMENT));
        while (told.find()) {
            StringBuilder row = new StringBuilder(told.group(1) == null ? "" : told.group(1)).append(told.group(2));
            for (String argument : told.group(3).split(", ")) {
                row.append(' ').append(argument.replaceFirst(" .*", ""));
            }
            String thrown = told.group(4) == null ? "" : told.group(4).substring(8).replace(",", "");
            due.add((row + " / " + thrown).replace("  ", " "));
        }
        Set<String> is = new TreeSet<>();
        for (Method m : HedgePark.class.getDeclaredMethods()) {
            if (Modifier.isPublic(m.getModifiers())) {
                is.add(row(m.getReturnType().getSimpleName() + " " + m.getName(), m.getParameterTypes(), m.getExceptionTypes()));
            } else {
                CHECK.due(m + " is private", Modifier.isPrivate(m.getModifiers()) ? 1 : 0, 1);
            }
        }
        for (Constructor<?> c : HedgePark.class.getDeclaredConstructors()) {
            is.add(row("HedgePark", c.getParameterTypes(), c.getExceptionTypes()));
        }
        CHECK.due("the face", String.join("\n", is), String.join("\n", due));
        CHECK.due("calls of the face", is.size(), 47);
    }

    private static String row(String name, Class<?>[] arguments, Class<?>[] thrown) {
        StringBuilder row = new StringBuilder(name).append(arguments.length == 0 ? " " : "");
        for (Class<?> c : arguments) {
            row.append(' ').append(c.getSimpleName());
        }
        List<String> names = new ArrayList<>();
        for (Class<?> c : thrown) {
            names.add(c.getSimpleName());
        }
        return (row + " / " + String.join(" ", names)).replace("  ", " ");
    }

    private static void classes() {
        Class<?>[] inside = HedgePark.class.getDeclaredClasses();
        CHECK.due("some twelve classes", inside.length + 1 <= 12 ? 1 : 0, 1);
        Set<String> open = new TreeSet<>();
        for (Method m : HedgePark.class.getDeclaredMethods()) {
            if (Modifier.isPublic(m.getModifiers())) {
                open.add(m.getName());
            }
        }
        List<Class<?>> all = new ArrayList<>(Arrays.asList(inside));
        all.add(HedgePark.class);
        for (Class<?> c : all) {
            int fields = 0;
            for (Field f : c.getDeclaredFields()) {
                boolean constant = Modifier.isStatic(f.getModifiers()) && Modifier.isFinal(f.getModifiers());
                CHECK.due(f + " is no static state", Modifier.isStatic(f.getModifiers()) && !constant ? 1 : 0, 0);
                boolean known = f.getName().equals("NONE") && c == HedgePark.class;
                CHECK.due(f + " is hidden", c == HedgePark.class && !Modifier.isPrivate(f.getModifiers()) && !known ? 1 : 0, 0);
                fields += constant ? 0 : 1;
            }
            CHECK.due(c + " has some twenty fields", fields <= 20 ? 1 : 0, 1);
            for (Method m : c.getDeclaredMethods()) {
                CHECK.due(m + " takes seven at most", m.getParameterCount() <= 7 ? 1 : 0, 1);
                boolean hidden = !Modifier.isPublic(m.getModifiers());
                CHECK.due(m + " has its own name", hidden && open.contains(m.getName()) ? 1 : 0, 0);
            }
        }
    }

    private static void text() throws IOException {
        String source = Files.readString(SOURCE);
        for (char c : source.toCharArray()) {
            CHECK.due("the sign " + (int) c, c == 10 || c >= 32 && c < 127 ? 1 : 0, 1);
        }
        String code = source.replaceAll("(?s)/\\*.*?\\*/", "").replaceAll("//[^\n]*", "");
        for (String word : new String[] {"->", "::", "\\btry\\b", "\\bcatch\\b", "\\bfinally\\b", "\\bassert\\b",
            "\\bsynchronized\\b", "\\binstanceof\\b", "\\bfor \\([^;)]*:", "\"\\s*\\+|\\+\\s*\"", "\\bnull\\b",
            "Exact\\(", "while \\(true\\)", "\\bdouble\\b", "\\bfloat\\b", "\\bvar\\b", "\\bstatic \\{"}) {
            CHECK.due("in the text: " + word, Pattern.compile(word).matcher(code).find() ? 1 : 0, 0);
        }
        Matcher imported = Pattern.compile("(?m)^import (.*);$").matcher(code);
        StringBuilder imports = new StringBuilder();
        while (imported.find()) {
            imports.append(imported.group(1)).append(' ');
        }
        CHECK.due("imports", imports.toString(), "java.util.Arrays java.util.NoSuchElementException ");
        Matcher thrown = Pattern.compile("throw new (\\w+)\\(([^;]*)\\);").matcher(code);
        while (thrown.find()) {
            CHECK.due("throws " + thrown.group(1), List.of("NoSuchElementException", "IllegalArgumentException",
                    "IllegalStateException", "IndexOutOfBoundsException").contains(thrown.group(1)) ? 1 : 0, 1);
        }
        methodsAreShort(code);
    }

    private static void methodsAreShort(String code) {
        String[] lines = code.split("\n");
        for (int i = 0; i < lines.length; i++) {
            Matcher head = Pattern.compile("^( {4}| {8})[a-zA-Z][^=;]*\\) .*\\{$|^( {4}| {8})[a-zA-Z][^=;]*\\) \\{$").matcher(lines[i]);
            if (head.find()) {
                String end = lines[i].replaceFirst("\\S.*", "") + "}";
                int last = i;
                while (last < lines.length && !lines[last].equals(end)) {
                    last++;
                }
                CHECK.due(lines[i].trim() + " is short", last - i <= 60 ? 1 : 0, 1);
            }
        }
    }

    public static void main(String[] args) throws IOException {
        face();
        classes();
        text();
        CHECK.end("LanguageTest");
    }
}
