import java.lang.reflect.Constructor;
import java.lang.reflect.Field;
import java.lang.reflect.Method;
import java.lang.reflect.Modifier;
import java.nio.file.Files;
import java.nio.file.Path;
import java.util.Arrays;
import java.util.Set;
import java.util.TreeSet;
import java.util.regex.Matcher;
import java.util.regex.Pattern;

/** The face is the document's, and nothing else of the class can be seen. */
public final class FaceTest {
    private static final Path DOCUMENT = Path.of("../shared/DOC.md");

    private static Set<String> promised() throws Exception {
        Set<String> all = new TreeSet<>();
        Matcher m = Pattern.compile("    public ((?:int|long) \\w+\\(.*\\));").matcher(Files.readString(DOCUMENT));
        while (m.find()) {
            all.add(m.group(1).replaceAll("(int|long|boolean) \\w+(?=[,)])", "$1"));
        }
        return all;
    }

    private static Set<String> shown() {
        Set<String> all = new TreeSet<>();
        for (Method m : OnlyUnseen.class.getDeclaredMethods()) {
            if (!Modifier.isPrivate(m.getModifiers())) {
                String types = Arrays.toString(m.getParameterTypes()).replaceAll("[\\[\\]]", "");
                all.add(m.getReturnType() + " " + m.getName() + "(" + types + ")");
            }
        }
        return all;
    }

    private static boolean isOfFace(String name) {
        return shown().stream().anyMatch(s -> s.contains(" " + name + "("));
    }

    public static void main(String[] args) throws Exception {
        Check check = new Check();
        check.due("NONE", OnlyUnseen.NONE, -1);
        check.due("methods promised", promised().size(), 54);
        if (!promised().equals(shown())) {
            check.fail("the face is " + shown());
        }
        for (Field f : OnlyUnseen.class.getDeclaredFields()) {
            if (!Modifier.isPrivate(f.getModifiers()) && !f.getName().equals("NONE")) {
                check.fail("field " + f.getName() + " can be seen");
            }
        }
        for (Constructor<?> c : OnlyUnseen.class.getDeclaredConstructors()) {
            check.due("parameters of a constructor", c.getParameterCount(), 0);
        }
        for (Class<?> c : OnlyUnseen.class.getDeclaredClasses()) {
            if (!Modifier.isStatic(c.getModifiers()) || Modifier.isPublic(c.getModifiers())) {
                check.fail("class " + c.getName() + " is public or not static");
            }
            for (Method m : c.getDeclaredMethods()) {
                if (Modifier.isPrivate(m.getModifiers()) && isOfFace(m.getName())) {
                    check.fail("private " + c.getName() + "." + m.getName() + " bears a name of the face");
                }
            }
        }
        check.end("FaceTest");
    }
}
