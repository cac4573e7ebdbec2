import java.io.IOException;
import java.lang.reflect.Method;
import java.lang.reflect.Modifier;
import java.net.URL;
import java.net.URLClassLoader;
import java.nio.file.Files;
import java.nio.file.Path;
import java.util.ArrayList;
import java.util.HashSet;
import java.util.List;
import java.util.Set;
import java.util.TreeSet;
import java.util.regex.Matcher;
import java.util.regex.Pattern;
import java.util.stream.Stream;
import javax.tools.ToolProvider;

/** README.md: its program is compiled and run as it stands there, and each call answers as it says. */
public final class ReadmeTest {
    private static final Pattern CALL = Pattern.compile("x\\.(\\w+)\\(");
    private static final Pattern TOLD = Pattern.compile("(x\\.\\w+\\([^;]*\\)); *// (-?[0-9]+)\\b.*");
    /** Two texts byte by byte, and 50 calls that fill a third. */
    private static final int IN_LOOPS = 56 + 55 + 50;
    private static final Path TESTS = Path.of("src/test/java");

    private final List<String> calls = new ArrayList<>();
    private final List<Integer> due = new ArrayList<>();
    private final Set<String> names = new HashSet<>();
    private final StringBuilder program = new StringBuilder();

    /** Each call that stands by itself must have its answer behind it; what stands deeper in is done without one. */
    private void read(String page) {
        boolean code = false;
        for (String line : page.split("\n")) {
            if (line.startsWith("```")) {
                code = line.equals("```java");
                continue;
            }
            if (!code) {
                continue;
            }
            Matcher call = CALL.matcher(line);
            while (call.find()) {
                names.add(call.group(1));
            }
            Matcher told = TOLD.matcher(line);
            if (told.matches()) {
                program.append("a[").append(calls.size()).append("] = ").append(told.group(1)).append(";\n");
                calls.add(told.group(1));
                due.add(Integer.parseInt(told.group(2)));
            } else {
                Due.is("README.md: '" + line + "' tells what it answers", line.startsWith("x.") ? 0 : 1, 1);
                program.append(line).append('\n');
            }
        }
    }

    private void run() throws IOException, ReflectiveOperationException {
        Path room = Files.createTempDirectory("readme");
        Path source = room.resolve("Readme.java");
        Files.writeString(source, "public final class Readme {\npublic static int[] answers() {\nint[] a = new int["
            + calls.size() + "];\n" + program + "return a;\n}\n}\n");
        int faults = ToolProvider.getSystemJavaCompiler().run(null, null, null, "-cp",
            System.getProperty("java.class.path"), "-d", room.toString(), source.toString());
        Due.is("README.md: its program compiles with javac's answer", faults, 0);
        if (faults == 0) {
            try (URLClassLoader loader = new URLClassLoader(new URL[] {room.toUri().toURL()})) {
                int[] got = (int[]) loader.loadClass("Readme").getMethod("answers").invoke(null);
                for (int i = 0; i < got.length; i++) {
                    Due.is("README.md: " + calls.get(i) + ", call " + i + " with an answer,", got[i], due.get(i));
                }
            }
        }
        try (Stream<Path> made = Files.list(room)) {
            for (Path file : made.toList()) {
                Files.delete(file);
            }
        }
        Files.delete(room);
    }

    private void everyCall() {
        for (Method m : SilenceFines.class.getDeclaredMethods()) {
            if (Modifier.isPublic(m.getModifiers())) {
                Due.is("README.md shows " + m.getName(), names.contains(m.getName()) ? 1 : 0, 1);
            }
        }
        Due.is("README.md stays within an object's 512 calls", calls.size() + IN_LOOPS <= 512 ? 1 : 0, 1);
    }

    /** The tests that README.md names are those that there are, and the command that runs them is there. */
    private static void tests(String page) throws IOException {
        Set<String> named = new TreeSet<>();
        Matcher name = Pattern.compile("`(\\w+Test)`").matcher(page);
        while (name.find()) {
            named.add(name.group(1));
        }
        Set<String> there = new TreeSet<>();
        try (Stream<Path> files = Files.list(TESTS)) {
            for (Path file : files.toList()) {
                String title = file.getFileName().toString().replace(".java", "");
                if (title.endsWith("Test")) {
                    there.add(title);
                }
            }
        }
        Due.is("README.md names " + named + ", there are " + there, named.equals(there) ? 1 : 0, 1);
        Matcher path = Pattern.compile("`((?:src|\\.\\./shared)[\\w./]*)`").matcher(page);
        while (path.find()) {
            Due.is("README.md: " + path.group(1) + " is there", Files.exists(Path.of(path.group(1))) ? 1 : 0, 1);
        }
        Due.is("README.md names .ci/run", page.contains("\n    .ci/run\n") ? 1 : 0, 1);
        Due.is(".ci/run can be run", Files.isExecutable(Path.of(".ci/run")) ? 1 : 0, 1);
    }

    public static void main(String[] args) throws IOException, ReflectiveOperationException {
        String page = Files.readString(Path.of("README.md"));
        ReadmeTest test = new ReadmeTest();
        test.read(page);
        test.run();
        test.everyCall();
        tests(page);
        Due.end("ReadmeTest");
    }
}
