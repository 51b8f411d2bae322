import java.io.IOException;
import java.lang.reflect.Constructor;
import java.lang.reflect.Field;
import java.lang.reflect.Method;
import java.lang.reflect.Modifier;
import java.nio.charset.StandardCharsets;
import java.nio.file.Files;
import java.nio.file.Path;
import java.util.ArrayList;
import java.util.HashSet;
import java.util.List;
import java.util.Set;
import java.util.TreeSet;
import java.util.regex.Matcher;
import java.util.regex.Pattern;

/** The face as the document writes it, and what the text shows of the rules of LANGUAGE.md. */
public final class LanguageTest {
    private static final Path PROGRAM = Path.of("src/main/java/PersistentParlour.java");
    private static final Path DOCUMENT = Path.of("../shared/DOC.md");
    private static final Class<?> FACE = PersistentParlour.class;

    private LanguageTest() {
    }

    public static void main(String[] args) throws IOException {
        faceIsThatOfTheDocument();
        nothingElseIsVisible();
        classesInside();
        membersAreFew();
        textKeepsTheRules();
        methodsAreShort();
        Check.finish();
    }

    private static void faceIsThatOfTheDocument() throws IOException {
        Set<String> due = new TreeSet<>();
        for (String line : Files.readAllLines(DOCUMENT)) {
            if (line.startsWith("    public ") && line.endsWith(";")) {
                due.add(line.substring(11, line.length() - 1).replaceAll("(\\w+) [a-z]\\w*([,)])", "$1$2"));
            }
        }
        Set<String> got = new TreeSet<>();
        for (Method method : FACE.getDeclaredMethods()) {
            if (Modifier.isPublic(method.getModifiers())) {
                got.add(method.getReturnType() + " " + signature(method.getName(), method.getParameterTypes(),
                        method.getExceptionTypes()));
            }
        }
        for (Constructor<?> constructor : FACE.getConstructors()) {
            got.add(signature("PersistentParlour", constructor.getParameterTypes(), constructor.getExceptionTypes()));
        }
        Check.same("number of the face's members in the document", due.size(), 50);
        Check.same("face", got, due);
    }

    private static String signature(String name, Class<?>[] parameters, Class<?>[] exceptions) {
        String all = name + "(" + names(parameters) + ")";
        return exceptions.length == 0 ? all : all + " throws " + names(exceptions);
    }

    private static String names(Class<?>[] classes) {
        List<String> names = new ArrayList<>();
        for (Class<?> one : classes) {
            names.add(one.getSimpleName());
        }
        return String.join(", ", names);
    }

    private static void nothingElseIsVisible() {
        Check.holds("the class is public and final", FACE.getModifiers() == (Modifier.PUBLIC | Modifier.FINAL));
        for (Field field : FACE.getDeclaredFields()) {
            Check.holds("private: " + field, Modifier.isPrivate(field.getModifiers()));
        }
        for (Method method : FACE.getDeclaredMethods()) {
            int modifiers = method.getModifiers();
            Check.holds("public or private: " + method, Modifier.isPublic(modifiers) || Modifier.isPrivate(modifiers));
        }
    }

    private static void classesInside() {
        Set<String> face = new HashSet<>();
        for (Method method : FACE.getMethods()) {
            face.add(method.getName());
        }
        Check.holds("classes in the file", FACE.getDeclaredClasses().length < 12);
        for (Class<?> inside : FACE.getDeclaredClasses()) {
            int modifiers = inside.getModifiers();
            Check.holds(inside + " is static", Modifier.isStatic(modifiers));
            Check.holds(inside + " is not visible", !Modifier.isPublic(modifiers) && !Modifier.isProtected(modifiers));
            for (Method method : inside.getDeclaredMethods()) {
                Check.holds("a name of its own: " + method, !face.contains(method.getName()));
            }
        }
        for (Method method : FACE.getDeclaredMethods()) {
            if (Modifier.isPrivate(method.getModifiers())) {
                Check.holds("a name of its own: " + method, !face.contains(method.getName()));
            }
        }
    }

    private static void membersAreFew() {
        List<Class<?>> classes = new ArrayList<>(List.of(FACE.getDeclaredClasses()));
        classes.add(FACE);
        for (Class<?> one : classes) {
            int fields = 0;
            for (Field field : one.getDeclaredFields()) {
                boolean isStatic = Modifier.isStatic(field.getModifiers());
                fields += isStatic ? 0 : 1;
                Check.holds("a constant: " + field, !isStatic || Modifier.isFinal(field.getModifiers())
                        && (field.getType().isPrimitive() || field.getType() == String.class));
            }
            Check.holds("fields of " + one, fields <= 20);
            for (Method method : one.getDeclaredMethods()) {
                Check.holds("parameters of " + method, method.getParameterCount() <= 7);
            }
        }
    }

    private static void textKeepsTheRules() throws IOException {
        String text = Files.readString(PROGRAM, StandardCharsets.ISO_8859_1);
        for (char sign : text.toCharArray()) {
            if (sign > 126 || sign < 32 && sign != '\n') {
                Check.holds("sign " + (int) sign, false);
            }
        }
        String code = text.replaceAll("(?s)/\\*.*?\\*/", "").replaceAll("//[^\n]*", "").replaceAll("\"[^\"\n]*\"", "\"\"");
        String[] forbidden = {"->", "::", "\\bsynchronized\\b", "\\bassert\\b", "\\bfinally\\b", "\\bcatch\\b", "\\bvar\\b",
            "hashCode", "Exact\\(", "getMessage", "\\bstatic \\{", "\\bprotected\\b", "\\bpackage\\b", "\\bSystem\\.(?!arraycopy)",
            "\\bThread\\b", "\\bRandom\\b", "@", "\\bvolatile\\b", "\\bnew Object\\b", "\\btoString\\(", "\"\" \\+", "\\+ \"\""};
        for (String one : forbidden) {
            Check.holds("no " + one, !Pattern.compile(one).matcher(code).find());
        }
        Set<String> imports = new TreeSet<>();
        Matcher matcher = Pattern.compile("import ([\\w.]+);").matcher(code);
        while (matcher.find()) {
            imports.add(matcher.group(1));
        }
        Check.same("imports", imports,
                new TreeSet<>(List.of("java.util.ArrayList", "java.util.Arrays", "java.util.NoSuchElementException")));
        Matcher thrown = Pattern.compile("throw (.*)").matcher(code);
        while (thrown.find()) {
            Check.holds(thrown.group(), thrown.group(1).matches("new (IllegalState|IllegalArgument|IndexOutOfBounds"
                    + "|UnsupportedOperation|NoSuchElement)Exception\\(\"\"\\);"));
        }
    }

    private static void methodsAreShort() throws IOException {
        int from = 0;
        int number = 0;
        for (String line : Files.readAllLines(PROGRAM)) {
            number++;
            if (line.matches("(    |        )[\\w\\[\\]<>]+ .*\\) (throws .*)?\\{")
                    || line.matches("(    |        )\\w+\\(.*\\) \\{")) {
                from = number;
            } else if (line.matches("(    |        )\\}") && from > 0) {
                Check.holds("method from line " + from, number - from < 60);
                from = 0;
            }
        }
    }
}
