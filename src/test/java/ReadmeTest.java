import java.io.IOException;
import java.net.URL;
import java.net.URLClassLoader;
import java.nio.file.Files;
import java.nio.file.Path;
import java.util.ArrayList;
import java.util.List;
import java.util.function.Supplier;
import java.util.regex.Matcher;
import java.util.regex.Pattern;
import javax.tools.ToolProvider;

/** Compiles what README.md tells in Java, and looks whether its calls answer what stands behind them. */
public final class ReadmeTest {
    private static final Pattern TOLD = Pattern.compile("(\\S.*\\));\\s+// (-?\\d+)\\b.*");
    private static final int FEWEST = 40;

    public static void main(String[] args) throws IOException, ReflectiveOperationException {
        List<String> lines = javaLines(Files.readAllLines(Path.of("README.md")));
        List<String> calls = new ArrayList<>();
        List<Integer> dues = new ArrayList<>();
        StringBuilder code = new StringBuilder(
            "public final class Told implements java.util.function.Supplier<long[]> {\n"
            + "public long[] get() {\nlong[] got = new long[" + lines.size() + "];\n");
        for (String line : lines) {
            Matcher told = TOLD.matcher(line);
            if (told.matches()) {
                code.append("got[").append(calls.size()).append("] = ").append(told.group(1)).append(";\n");
                calls.add(told.group(1));
                dues.add(Integer.valueOf(told.group(2)));
            } else {
                code.append(line).append("\n");
            }
        }
        long[] got = answers(code.append("return got;\n}\n}\n").toString());
        Due due = new Due();
        for (int i = 0; i < calls.size(); i++) {
            due.is("README.md: " + calls.get(i), got[i], dues.get(i));
        }
        due.is("README.md tells so many answers or more", Math.min(calls.size(), FEWEST), FEWEST);
        due.end("ReadmeTest");
    }

    private static List<String> javaLines(List<String> readme) {
        List<String> lines = new ArrayList<>();
        boolean isJava = false;
        for (String line : readme) {
            if (line.startsWith("```")) {
                isJava = line.equals("```java");
            } else if (isJava) {
                lines.add(line);
            }
        }
        return lines;
    }

    private static long[] answers(String code) throws IOException, ReflectiveOperationException {
        Path place = Files.createTempDirectory("readme");
        Path file = Files.writeString(place.resolve("Told.java"), code);
        int trouble = ToolProvider.getSystemJavaCompiler().run(null, null, null,
            "-cp", System.getProperty("java.class.path"), "-d", place.toString(), file.toString());
        if (trouble != 0) {
            throw new IllegalStateException("README.md does not compile");
        }
        try (URLClassLoader loader = new URLClassLoader(new URL[] {place.toUri().toURL()})) {
            Object told = loader.loadClass("Told").getConstructor().newInstance();
            return (long[]) ((Supplier<?>) told).get();
        } finally {
            Files.delete(place.resolve("Told.class"));
            Files.delete(file);
            Files.delete(place);
        }
    }
}
