import java.io.IOException;
import java.lang.reflect.Constructor;
import java.lang.reflect.Method;
import java.lang.reflect.Modifier;
import java.nio.file.Files;
import java.nio.file.Path;
import java.util.ArrayList;
import java.util.List;
import java.util.Set;
import java.util.TreeSet;
import java.util.regex.Matcher;
import java.util.regex.Pattern;

/** The class has the document's face and no more, and keeps to what of LANGUAGE.md can be read from its text. */
public final class FaceTest {
    public static void main(String[] args) throws IOException {
        Path root = Path.of(System.getProperty("root", "."));
        String document = Files.readString(root.resolve("../shared/DOC.md"));
        String program = Files.readString(root.resolve("src/main/java/PictureStudio.java"));
        face(document);
        names(program);
        words(program);
        Check.done("FaceTest");
    }

    private static void face(String document) {
        Set<String> due = new TreeSet<>();
        Matcher line = Pattern.compile("^    public (.*);$", Pattern.MULTILINE).matcher(document);
        while (line.find()) {
            due.add(line.group(1).replaceAll("(int|long|boolean) \\w+(?=[,)])", "$1"));
        }
        Set<String> got = new TreeSet<>();
        for (Constructor<?> made : PictureStudio.class.getConstructors()) {
            got.add("PictureStudio" + told(made.getParameterTypes(), made.getExceptionTypes()));
        }
        for (Method method : PictureStudio.class.getDeclaredMethods()) {
            if (!Modifier.isPrivate(method.getModifiers())) {
                got.add(method.getReturnType().getSimpleName() + " " + method.getName()
                    + told(method.getParameterTypes(), method.getExceptionTypes()));
            }
        }
        Check.due("how many the document has", due.size(), 49);
        Check.due("the face: " + difference(got, due) + difference(due, got), got.equals(due) ? 1 : 0, 1);
        Check.due("no fields to be seen", PictureStudio.class.getFields().length, 0);
        Check.due("public and final", PictureStudio.class.getModifiers(), Modifier.PUBLIC | Modifier.FINAL);
        for (Class<?> inside : PictureStudio.class.getDeclaredClasses()) {
            Check.due(inside.getName() + " is static", inside.getModifiers() & Modifier.STATIC, Modifier.STATIC);
            Check.due(inside.getName() + " isn't public", inside.getModifiers() & Modifier.PUBLIC, 0);
            Check.due(inside.getName() + " has few fields", inside.getDeclaredFields().length <= 26 ? 1 : 0, 1);
        }
        Check.due("at most twelve classes", PictureStudio.class.getDeclaredClasses().length <= 11 ? 1 : 0, 1);
    }

    private static String told(Class<?>[] takes, Class<?>[] throwing) {
        return "(" + join(takes) + ")" + (throwing.length == 0 ? "" : " throws " + join(throwing));
    }

    private static String join(Class<?>[] classes) {
        List<String> names = new ArrayList<>();
        for (Class<?> one : classes) {
            names.add(one.getSimpleName());
        }
        return String.join(", ", names);
    }

    private static Set<String> difference(Set<String> all, Set<String> known) {
        Set<String> rest = new TreeSet<>(all);
        rest.removeAll(known);
        return rest;
    }

    private static void names(String program) {
        Set<String> open = new TreeSet<>();
        for (Method method : PictureStudio.class.getMethods()) {
            open.add(method.getName());
        }
        List<Class<?>> all = new ArrayList<>(List.of(PictureStudio.class.getDeclaredClasses()));
        all.add(PictureStudio.class);
        for (Class<?> one : all) {
            for (Method method : one.getDeclaredMethods()) {
                boolean itself = one == PictureStudio.class && Modifier.isPublic(method.getModifiers());
                Check.due(one.getName() + "." + method.getName() + " has a name of its own",
                    itself || !open.contains(method.getName()) ? 1 : 0, 1);
                Check.due(method.getName() + " takes at most seven", method.getParameterCount() <= 7 ? 1 : 0, 1);
            }
        }
        Check.due("a text was read", program.contains("public final class PictureStudio") ? 1 : 0, 1);
    }

    private static void words(String program) {
        String[] outside = {"\\bcatch\\b", "\\bfinally\\b", "\\bsynchronized\\b", "\\bassert\\b", "->", "::", "\\bString\\b",
            "\\bdouble\\b", "\\bfloat\\b", "\\bpackage\\b", "Exact\\(", "\\bprotected\\b", "System\\.(?!arraycopy)",
            "Integer\\.", "Long\\.", "import (?!java\\.util\\.(Arrays|NoSuchElementException);)"};
        for (String word : outside) {
            Check.due("no " + word, Pattern.compile(word).matcher(program).find() ? 1 : 0, 0);
        }
    }
}
