import java.io.IOException;
import java.lang.reflect.Constructor;
import java.lang.reflect.Field;
import java.lang.reflect.Method;
import java.lang.reflect.Modifier;
import java.nio.file.Files;
import java.nio.file.Path;
import java.util.Arrays;
import java.util.Set;
import java.util.TreeSet;
import java.util.regex.Pattern;

/** The class has the document's face and nothing more, and keeps the rules that can be seen. */
public final class FaceTest {
    private static final Set<String> FACE = new TreeSet<>(Arrays.asList(
            "int advance(int)", "boolean skew(int,int)", "boolean ping(int)", "int check()",
            "boolean push(int)", "int begin(int,boolean,int,int)", "boolean send(int,int)",
            "int deliver(int)", "boolean lose(int)", "boolean crash(int)", "int letters()",
            "int letter(int)", "int view(int)", "int role(int)", "int cell(int,int)", "int count(int)",
            "int finished(int)", "int result(int)"));
    private static final String[] FORBIDDEN = {
        "\\bthrow\\b", "\\btry\\b", "\\bcatch\\b", "\\bsynchronized\\b", "\\bassert\\b",
        "\\bimport\\s+(?!java\\.util\\.(ArrayList|List|Arrays|Iterator);)",
        "\\bpackage\\b", "->", "::", "\\bstatic\\s*\\{", "\\bprotected\\b"};

    private static int wrong = 0;

    private static void must(boolean holds, String what) {
        if (!holds) {
            wrong++;
            System.out.println("does not hold: " + what);
        }
    }

    private static String signature(Method m) {
        StringBuilder types = new StringBuilder();
        for (Class<?> type : m.getParameterTypes()) {
            types.append(types.length() == 0 ? "" : ",").append(type.getName());
        }
        return m.getReturnType().getName() + " " + m.getName() + "(" + types + ")";
    }

    private static void outerClass(Class<?> face) {
        must(Modifier.isPublic(face.getModifiers()) && Modifier.isFinal(face.getModifiers()),
                "the class is public and final");
        Set<String> found = new TreeSet<>();
        Set<String> names = new TreeSet<>();
        for (Method m : face.getDeclaredMethods()) {
            if (Modifier.isPublic(m.getModifiers())) {
                found.add(signature(m));
                names.add(m.getName());
                must(!Modifier.isStatic(m.getModifiers()), m + " is no static method");
            } else {
                must(Modifier.isPrivate(m.getModifiers()), m + " is private");
            }
        }
        must(found.equals(FACE), "the public methods are those of the document, not " + found);
        for (Method m : face.getDeclaredMethods()) {
            must(Modifier.isPublic(m.getModifiers()) || !names.contains(m.getName()),
                    m + " does not bear the name of a public method");
        }
        Constructor<?>[] constructors = face.getDeclaredConstructors();
        must(constructors.length == 1 && Modifier.isPublic(constructors[0].getModifiers())
                && Arrays.equals(constructors[0].getParameterTypes(), new Class<?>[] {int.class}),
                "one public constructor with an int");
        for (Field f : face.getDeclaredFields()) {
            must(Modifier.isPrivate(f.getModifiers()), f + " is private");
        }
    }

    private static void anyClass(Class<?> type) {
        int fields = 0;
        for (Field f : type.getDeclaredFields()) {
            if (Modifier.isStatic(f.getModifiers())) {
                must(Modifier.isFinal(f.getModifiers()), f + " is final");
            } else {
                fields++;
            }
        }
        must(fields <= 20, type + " has at most twenty fields");
        for (Method m : type.getDeclaredMethods()) {
            must(m.getParameterCount() <= 7, m + " takes at most seven parameters");
        }
    }

    private static void source() throws IOException {
        Path root = Path.of(System.getProperty("project.root", "."));
        String text = Files.readString(root.resolve("src/main/java/LeasedViewStore.java"));
        String code = text.replaceAll("(?s)/\\*.*?\\*/", "").replaceAll("//[^\n]*", "");
        for (String word : FORBIDDEN) {
            must(!Pattern.compile(word).matcher(code).find(), "the source is free of " + word);
        }
    }

    public static void main(String[] args) throws IOException {
        Class<?> face = LeasedViewStore.class;
        outerClass(face);
        anyClass(face);
        Class<?>[] inside = face.getDeclaredClasses();
        must(inside.length <= 11, "at most twelve classes");
        for (Class<?> type : inside) {
            must(Modifier.isStatic(type.getModifiers()), type + " is static");
            must(!Modifier.isPublic(type.getModifiers()), type + " is not public");
            anyClass(type);
        }
        source();
        System.out.println(wrong == 0 ? "the face is as due" : wrong + " rules do not hold");
        if (wrong != 0) {
            System.exit(1);
        }
    }
}
