import java.io.File;
import java.io.IOException;
import java.nio.charset.StandardCharsets;
import java.nio.file.Files;
import java.nio.file.Path;
import java.util.ArrayList;
import java.util.Comparator;
import java.util.List;
import java.util.regex.Matcher;
import java.util.regex.Pattern;
import java.util.stream.Stream;

/** The run of calls in README.md, copied as a reader would: it answers what stands behind its calls. */
public final class ReadmeTests {
    private static final Pattern PROGRAM = Pattern.compile("(?s)```java\n(.*?)```");
    private static final Pattern CALL = Pattern.compile("(?m)^ *say\\((.*)\\);( *// ([^: \n]+).*)?$");

    public static void main(String[] args) throws Exception {
        Matcher program = PROGRAM.matcher(Files.readString(Path.of("README.md")));
        if (!program.find()) {
            fail("README.md shows no program");
        }
        List<String> calls = new ArrayList<>();
        List<String> due = new ArrayList<>();
        Matcher call = CALL.matcher(program.group(1));
        while (call.find()) {
            calls.add(call.group(1));
            due.add(call.group(3));
        }
        String[] got = printed(program.group(1)).split("\\R");
        if (calls.isEmpty() || got.length != calls.size()) {
            fail(calls.size() + " calls, " + got.length + " answers");
        }
        int wrong = 0;
        for (int i = 0; i < got.length; i++) {
            if (!got[i].equals(due.get(i))) {
                wrong++;
                System.out.println(calls.get(i) + " answered " + got[i] + ", README.md says " + due.get(i));
            }
        }
        if (wrong != 0) {
            fail(wrong + " wrong answers");
        }
        System.out.println(got.length + " answers as README.md says");
    }

    private static void fail(String why) {
        System.out.println(why);
        System.exit(1);
    }

    private static String printed(String program) throws Exception {
        Path folder = Files.createTempDirectory("readme");
        try {
            return runIn(folder, program);
        } finally {
            remove(folder);
        }
    }

    private static String runIn(Path folder, String program) throws Exception {
        Path file = Files.writeString(folder.resolve("Example.java"), program);
        String classes = System.getProperty("java.class.path");
        String told = printedBy("javac", "-d", folder.toString(), "-cp", classes, file.toString());
        return told + printedBy("java", "-cp", folder + File.pathSeparator + classes, "Example");
    }

    private static String printedBy(String... command) throws Exception {
        Process process = new ProcessBuilder(command).redirectError(ProcessBuilder.Redirect.INHERIT).start();
        process.getOutputStream().close();
        String printed = new String(process.getInputStream().readAllBytes(), StandardCharsets.UTF_8);
        process.waitFor();
        return printed;
    }

    private static void remove(Path folder) throws IOException {
        try (Stream<Path> all = Files.walk(folder)) {
            for (Path one : all.sorted(Comparator.reverseOrder()).toList()) {
                Files.delete(one);
            }
        }
    }
}
