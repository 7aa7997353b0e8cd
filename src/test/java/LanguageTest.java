import java.io.IOException;
import java.lang.reflect.Constructor;
import java.lang.reflect.Field;
import java.lang.reflect.Method;
import java.lang.reflect.Modifier;
import java.nio.file.Files;
import java.nio.file.Path;
import java.util.ArrayList;
import java.util.HashSet;
import java.util.List;
import java.util.Set;
import java.util.TreeSet;
import java.util.regex.Matcher;
import java.util.regex.Pattern;

/** LANGUAGE.md, as far as a test can see it: the face of the document, and the words that the rules leave out. */
final class LanguageTest {
    private static final String SOURCE = "src/main/java/Watermarkmill.java";
    private static final String DOCUMENT = "../shared/DOC.md";

    public static void main(String[] args) throws IOException {
        face();
        members();
        words();
        lengths();
        Check.end();
    }

    /** The signatures of the document's "public face", each as 'result name(types) throws classes'. */
    private static void face() throws IOException {
        String text = Files.readString(Path.of(DOCUMENT));
        Set<String> due = new TreeSet<>();
        Matcher m = Pattern.compile("(?m)^    public (\\w+) (\\w+)\\((.*?)\\)(?: throws (.*))?;$").matcher(text);
        while (m.find()) {
            String types = m.group(3).replaceAll("(\\w+) \\w+", "$1");
            due.add(m.group(1) + " " + m.group(2) + "(" + types + ") throws " + (m.group(4) == null ? "" : m.group(4)));
        }
        Set<String> got = new TreeSet<>();
        for (Method method : Watermarkmill.class.getDeclaredMethods()) {
            if (!Modifier.isPrivate(method.getModifiers())) {
                got.add(method.getReturnType() + " " + method.getName() + "(" + names(method.getParameterTypes())
                        + ") throws " + names(method.getExceptionTypes()));
                Check.due("public, not static: " + method, method.getModifiers(), Modifier.PUBLIC);
            }
        }
        Check.due("45 methods in the document", due.size(), 45);
        Check.due("the face", got, due);
    }

    private static String names(Class<?>[] types) {
        List<String> names = new ArrayList<>();
        for (Class<?> type : types) {
            names.add(type.getSimpleName());
        }
        return String.join(", ", names);
    }

    private static void members() {
        Class<?> c = Watermarkmill.class;
        Check.due("the class", c.getModifiers(), Modifier.PUBLIC | Modifier.FINAL);
        Constructor<?>[] constructors = c.getDeclaredConstructors();
        Check.due("one constructor", constructors.length, 1);
        Check.due("it is public", constructors[0].getModifiers(), Modifier.PUBLIC);
        fields(c);
        Set<String> face = new HashSet<>();
        for (Method method : c.getDeclaredMethods()) {
            if (Modifier.isPublic(method.getModifiers())) {
                face.add(method.getName());
            }
        }
        Check.due("at most twelve classes", c.getDeclaredClasses().length < 12, true);
        for (Class<?> inner : c.getDeclaredClasses()) {
            Check.due("private or package-visible: " + inner,
                    inner.getModifiers() & (Modifier.PUBLIC | Modifier.PROTECTED), 0);
            Check.due("static: " + inner, Modifier.isStatic(inner.getModifiers()), true);
            fields(inner);
        }
        for (Method method : c.getDeclaredMethods()) {
            Check.due("private bears no public name: " + method,
                    Modifier.isPrivate(method.getModifiers()) && face.contains(method.getName()), false);
        }
    }

    private static void fields(Class<?> c) {
        int count = 0;
        for (Field field : c.getDeclaredFields()) {
            int modifiers = field.getModifiers();
            if (Modifier.isStatic(modifiers)) {
                Check.due("static is final: " + field, Modifier.isFinal(modifiers), true);
            } else {
                count++;
            }
            Check.due("no visible field: " + field, c == Watermarkmill.class && !Modifier.isPrivate(modifiers), false);
        }
        Check.due("some twenty fields: " + c, count <= 20, true);
    }

    private static void words() throws IOException {
        String source = Files.readString(Path.of(SOURCE));
        String code = source.replaceAll("(?s)/\\*.*?\\*/", " ").replaceAll("//.*", " ").replaceAll("\"[^\"]*\"", "\"\"");
        String[] left = {"->", "::", "\\btry\\b", "\\bcatch\\b", "\\bfinally\\b", "\\bsynchronized\\b", "\\bassert\\b",
            "\\binstanceof\\b", "\\brecord\\b", "static \\{", "\\bpackage\\b", "\\bequals\\b", "\\bhashCode\\b",
            "\\btoString\\b", "Exact\\b", "\\bSystem\\.(?!arraycopy)", "\\bwhile \\(true\\)", "\\bfor \\(;;",
            "\"\" \\+", "\\+ \"\"", "\\bvar\\b", "\\bprotected\\b"};
        for (String word : left) {
            Check.due("without " + word, Pattern.compile(word).matcher(code).find(), false);
        }
        Set<String> imports = new TreeSet<>();
        Matcher m = Pattern.compile("(?m)^import (.*);$").matcher(code);
        while (m.find()) {
            imports.add(m.group(1));
        }
        imports.removeAll(Set.of("java.util.ArrayList", "java.util.List", "java.util.Arrays",
                "java.util.NoSuchElementException"));
        Check.due("no other imports", imports.toString(), "[]");
        Check.due("plain signs", source.chars().allMatch(sign -> sign == '\n' || sign >= 32 && sign < 127), true);
    }

    private static void lengths() throws IOException {
        int start = -1;
        String closing = "";
        List<String> lines = Files.readAllLines(Path.of(SOURCE));
        for (int i = 0; i < lines.size(); i++) {
            String line = lines.get(i);
            String indent = line.substring(0, line.length() - line.stripLeading().length());
            if (start < 0 && line.contains("(") && !line.contains(";") && indent.length() <= 8
                    && !line.strip().startsWith("/") && !line.strip().startsWith("*")) {
                start = i;
                closing = indent + "}";
            } else if (start >= 0 && line.equals(closing)) {
                Check.due("short: " + lines.get(start).strip(), i - start < 60, true);
                start = -1;
            }
        }
        Check.due("all methods closed", start, -1);
    }
}
