import java.io.IOException;
import java.lang.reflect.Constructor;
import java.lang.reflect.Field;
import java.lang.reflect.Method;
import java.lang.reflect.Modifier;
import java.nio.file.Files;
import java.nio.file.Path;
import java.util.Arrays;
import java.util.Set;
import java.util.TreeSet;
import java.util.regex.Pattern;

/** The document's face and no more (LANGUAGE.md, rule 1); what stands ahead of the class. LanguageTest has the other rules. */
public final class FaceTest {
    private static final String FACE = "int feed 5 int|int back 1 int|int read 0 int|int place 0 int|int ground 3 int|int mast 2 int|"
        + "int programme 3 int|boolean sheet 2 int|boolean cell 3 int|boolean clock 1 int|int report 5 int|int notice 5 int|"
        + "int way 3 int|int sun 4 boolean|int correction 4 int|int strength 6 int|int yields 6 int|int rule 6 int|"
        + "int schedule 2 int|int slot 3 int|int listeners 1 int|int count 1 int";

    public static void main(String[] args) throws IOException {
        methods();
        others();
        nested();
        source();
        Due.end();
    }

    private static void methods() {
        Set<String> found = new TreeSet<>();
        for (Method m : WaveHouse.class.getDeclaredMethods()) {
            if (Modifier.isPublic(m.getModifiers())) {
                Class<?>[] types = m.getParameterTypes();
                String first = types.length == 0 ? "int" : types[0].getName();
                found.add(m.getReturnType().getName() + " " + m.getName() + " " + types.length + " " + first);
                Due.is(m.getName() + " is static", Modifier.isStatic(m.getModifiers()), false);
                Due.is(m.getName() + " takes ints behind", Arrays.stream(types).skip(1).allMatch(t -> t == int.class), true);
            } else {
                Due.is(m.getName() + " is private", Modifier.isPrivate(m.getModifiers()), true);
                Due.is(m.getName() + " has a public one's name", FACE.contains(" " + m.getName() + " "), false);
            }
        }
        Due.is("the face is " + found, found.equals(new TreeSet<>(Arrays.asList(FACE.split("\\|")))), true);
    }

    private static void others() {
        Due.is("public and final", WaveHouse.class.getModifiers(), Modifier.PUBLIC | Modifier.FINAL);
        Constructor<?>[] all = WaveHouse.class.getDeclaredConstructors();
        Due.is("one constructor", all.length, 1);
        Due.is("it is public", Modifier.isPublic(all[0].getModifiers()), true);
        Due.is("it takes nothing", all[0].getParameterCount(), 0);
        for (Field f : WaveHouse.class.getDeclaredFields()) {
            Due.is(f.getName() + " is private", Modifier.isPrivate(f.getModifiers()), !f.getName().equals("NONE"));
        }
    }

    private static void nested() {
        Due.is("twelve classes at most", WaveHouse.class.getDeclaredClasses().length <= 11, true);
        for (Class<?> c : WaveHouse.class.getDeclaredClasses()) {
            Due.is(c.getName() + " is static", Modifier.isStatic(c.getModifiers()), true);
            boolean open = Modifier.isPublic(c.getModifiers()) || Modifier.isProtected(c.getModifiers());
            Due.is(c.getName() + " is seen from outside", open, false);
            for (Method m : c.getDeclaredMethods()) {
                boolean hidden = Modifier.isPrivate(m.getModifiers()) && !m.isSynthetic();
                Due.is(m.getName() + " has a public one's name", hidden && FACE.contains(" " + m.getName() + " "), false);
            }
            for (Field f : c.getDeclaredFields()) {
                boolean bad = Modifier.isStatic(f.getModifiers()) && !Modifier.isFinal(f.getModifiers());
                Due.is(f.getName() + " is a static that is not final", bad, false);
            }
        }
    }

    private static void source() throws IOException {
        String text = Files.readString(Path.of("src/main/java/WaveHouse.java"));
        String code = text.replaceAll("(?s)/\\*.*?\\*/", "").replaceAll("//[^\\n]*", "");
        Due.is("signs above 127", text.chars().anyMatch(c -> c > 127), false);
        Due.is("a package line", Pattern.compile("(?m)^\\s*package\\b").matcher(code).find(), false);
        code.lines().filter(line -> line.startsWith("import ")).forEach(line ->
            Due.is(line, line.matches("import java\\.util\\.(ArrayList|List|Arrays|Iterator);"), true));
    }
}
