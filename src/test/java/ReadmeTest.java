import java.io.File;
import java.net.URL;
import java.net.URLClassLoader;
import java.nio.file.Files;
import java.nio.file.Path;
import java.util.regex.Matcher;
import java.util.regex.Pattern;
import javax.tools.ToolProvider;

/** README.md's examples answer what stands behind them, and its tables name every call. */
public final class ReadmeTest {
    private static final Pattern BLOCK = Pattern.compile("```java\n(.*?)```", Pattern.DOTALL);
    private static final Pattern ROW = Pattern.compile("(?:int (\\w+) = )?(x\\..*);\\s*// (-?\\d+)(?::.*)?");
    private static final Check check = new Check();

    /** A line "call;  // number: text" becomes a check of its answer; every other line stays as it is. */
    private static String asChecks(String block) {
        StringBuilder text = new StringBuilder("{\n");
        for (String line : block.split("\n")) {
            Matcher m = ROW.matcher(line);
            if (!m.matches()) {
                text.append(line).append('\n');
            } else if (m.group(1) != null) {
                text.append(line).append("\ndue(\"").append(m.group(2)).append("\", ").append(m.group(1));
            } else {
                text.append("due(\"").append(m.group(2)).append("\", ").append(m.group(2));
            }
            text.append(m.matches() ? ", " + m.group(3) + ");\n" : "");
        }
        return text.append("}\n").toString();
    }

    private static long[] runExamples(String readme) throws Exception {
        StringBuilder text = new StringBuilder("public final class Examples {\n"
            + "static long asked = 0; static long wrong = 0;\n"
            + "static void due(String call, long got, long want) { asked++;\n"
            + "if (got != want) { wrong++; System.out.println(\"README: \" + call + \" answered \" + got); } }\n"
            + "public static long[] run() {\n");
        Matcher m = BLOCK.matcher(readme);
        while (m.find()) {
            text.append(asChecks(m.group(1)));
        }
        text.append("return new long[] {asked, wrong}; } }\n");
        Path folder = Files.createTempDirectory("readme");
        Path source = folder.resolve("Examples.java");
        Path made = folder.resolve("Examples.class");
        Files.writeString(source, text);
        String classes = System.getProperty("java.class.path");
        int failed = ToolProvider.getSystemJavaCompiler().run(null, null, null, "-cp", classes, "-d", folder.toString(),
            source.toString());
        check.due("README's examples compile", failed, 0);
        try (URLClassLoader loader = new URLClassLoader(new URL[] {folder.toUri().toURL()})) {
            return (long[]) loader.loadClass("Examples").getMethod("run").invoke(null);
        } finally {
            for (File file : new File[] {source.toFile(), made.toFile(), folder.toFile()}) {
                file.delete();
            }
        }
    }

    public static void main(String[] args) throws Exception {
        String readme = Files.readString(Path.of("README.md"));
        long[] counts = runExamples(readme);
        check.due("README's examples: answers as told", counts[0] - counts[1], 24);
        check.due("README's examples: wrong ones", counts[1], 0);
        for (var m : OnlyUnseen.class.getDeclaredMethods()) {
            boolean isPublic = java.lang.reflect.Modifier.isPublic(m.getModifiers());
            if (isPublic && !readme.contains("`" + m.getName() + "`")) {
                check.fail("README names no call " + m.getName());
            }
        }
        check.end("ReadmeTest");
    }
}
