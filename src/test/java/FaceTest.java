import java.io.IOException;
import java.lang.reflect.Constructor;
import java.lang.reflect.Field;
import java.lang.reflect.Method;
import java.lang.reflect.Modifier;
import java.nio.file.Files;
import java.nio.file.Path;
import java.util.ArrayList;
import java.util.Arrays;
import java.util.List;
import java.util.Set;
import java.util.TreeSet;
import java.util.regex.Matcher;
import java.util.regex.Pattern;

/** The public face, and those rules of LANGUAGE.md that reflection and the source's own words can show. */
public final class FaceTest {
    private static final Path SOURCE = Path.of("src/main/java/RopeRace.java");

    private static final Set<String> FACE = new TreeSet<>(List.of(
            "int feed(int, int, int, int, int)", "int statute(int, int)", "int fault(int)", "int law(int, int)",
            "int ward()", "int horse(int)", "boolean sound(int, boolean)", "int choose(int)", "int pick()",
            "boolean lots(int)", "int drawn(int, int)", "int look(int, int)", "boolean ring(int)",
            "boolean bend(int, boolean)", "boolean orders(int, int, int)", "boolean seen(int, int)", "int drop(int)",
            "int go(int)", "int race(int, int)", "int won()", "int pact(int, int, int)", "int punish(int)",
            "int next()", "int count(int)"));

    public static void main(String[] args) throws IOException {
        publicFace();
        insideClasses();
        sourceWords();
        Due.end();
    }

    private static void publicFace() {
        int modifiers = RopeRace.class.getModifiers();
        Due.is("public and final", Modifier.isPublic(modifiers) && Modifier.isFinal(modifiers), true);
        Constructor<?>[] made = RopeRace.class.getDeclaredConstructors();
        Due.is("constructors", made.length, 1);
        Due.is("a public one without arguments",
                Modifier.isPublic(made[0].getModifiers()) && made[0].getParameterCount() == 0, true);
        Set<String> open = new TreeSet<>();
        for (Method method : RopeRace.class.getDeclaredMethods()) {
            if (!Modifier.isPrivate(method.getModifiers())) {
                Due.is(method.getName() + " is public, not static", method.getModifiers(), Modifier.PUBLIC);
                String types = Arrays.toString(method.getParameterTypes());
                open.add(method.getReturnType() + " " + method.getName() + types.replace('[', '(').replace(']', ')'));
            }
        }
        if (!open.equals(FACE)) {
            Due.is("the face is " + open, false, true);
        }
        for (Field field : RopeRace.class.getDeclaredFields()) {
            Due.is(field.getName() + " is private, but for NONE",
                    Modifier.isPrivate(field.getModifiers()), !field.getName().equals("NONE"));
        }
        Due.is("NONE", RopeRace.NONE, -1);
    }

    private static void insideClasses() {
        List<Class<?>> all = new ArrayList<>(List.of(RopeRace.class.getDeclaredClasses()));
        for (Class<?> inside : all) {
            int modifiers = inside.getModifiers();
            Due.is(inside + " is static", Modifier.isStatic(modifiers), true);
            Due.is(inside + " is open", Modifier.isPublic(modifiers) || Modifier.isProtected(modifiers), false);
        }
        all.add(RopeRace.class);
        Due.is("at most twelve classes", all.size() <= 12, true);
        for (Class<?> each : all) {
            int fields = 0;
            for (Field field : each.getDeclaredFields()) {
                boolean isStatic = Modifier.isStatic(field.getModifiers());
                fields += isStatic ? 0 : 1;
                Due.is(field + " is final", !isStatic || Modifier.isFinal(field.getModifiers()), true);
            }
            Due.is(each + " has at most twenty fields", fields <= 20, true);
            for (Method method : each.getDeclaredMethods()) {
                Due.is(method + " has at most seven parameters", method.getParameterCount() <= 7, true);
                boolean isPublicName = FACE.stream().anyMatch(face -> face.contains(" " + method.getName() + "("));
                Due.is(method + " bears a public one's name",
                        isPublicName && !Modifier.isPublic(method.getModifiers()), false);
            }
        }
    }

    private static void sourceWords() throws IOException {
        String source = Files.readString(SOURCE).replaceAll("(?s)/\\*.*?\\*/", " ").replaceAll("//[^\n]*", " ");
        Matcher banned = Pattern.compile("\\b(package|throw|throws|try|catch|synchronized|assert|native|volatile|var)\\b"
                + "|->|::|Exact\\b|@\\w+|new \\w+\\([^)]*\\)\\s*\\{").matcher(source);
        while (banned.find()) {
            Due.is("the source has [" + banned.group() + "]", true, false);
        }
        Matcher imports = Pattern.compile("import ([^;]*);").matcher(source);
        while (imports.find()) {
            Due.is("import " + imports.group(1),
                    imports.group(1).matches("java\\.util\\.(Arrays|ArrayList|List|Iterator)"), true);
        }
    }
}
