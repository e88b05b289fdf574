import java.io.IOException;
import java.lang.reflect.Method;
import java.lang.reflect.Modifier;
import java.nio.file.Files;
import java.nio.file.Path;
import java.util.ArrayList;
import java.util.Comparator;
import java.util.List;
import java.util.Set;
import java.util.TreeSet;
import java.util.regex.Matcher;
import java.util.regex.Pattern;
import java.util.stream.Stream;

/** README.md: its commands and its example are run as they stand there, and it names each test. */
public final class ReadmeTest {
    private static final Path CLASS = Path.of("src/main/java/TrackArray.java");
    private static final Path TESTS = Path.of("src/test/java");
    private static final Pattern COMMAND = Pattern.compile("(?m)^    (javac? .*)$");
    private static final Pattern PRINTING = Pattern.compile("(?m)^ *System.out.println\\((.*)\\); // (.*)$");
    private static final Pattern TEST = Pattern.compile("`(\\w+Sentences|Fingerprint)`|\\| (\\w+Test) \\|");
    private static final Checks C = new Checks("ReadmeTest");

    public static void main(String[] args) throws Exception {
        String readme = Files.readString(Path.of("README.md"));
        String start = "```java\n";
        int from = readme.indexOf(start) + start.length();
        String example = readme.substring(from, readme.indexOf("```", from));
        Path place = Files.createTempDirectory("readme");
        try {
            prints(example, run(readme.substring(0, from), example, place));
        } finally {
            remove(place);
        }
        callsEachMethod(example);
        namesEachTest(readme);
        C.end();
    }

    /** Runs the commands that stand before the example, in a copy of the project, and returns what is printed. */
    private static String run(String before, String example, Path place) throws Exception {
        Files.createDirectories(place.resolve(CLASS).getParent());
        Files.copy(CLASS, place.resolve(CLASS));
        Files.writeString(place.resolve("Example.java"), example);
        StringBuilder printed = new StringBuilder();
        Matcher command = COMMAND.matcher(before);
        while (command.find()) {
            Process process = new ProcessBuilder(command.group(1).split(" ")).directory(place.toFile())
                    .redirectErrorStream(true).start();
            printed.append(new String(process.getInputStream().readAllBytes()));
            C.due(command.group(1), process.waitFor(), 0);
        }
        return printed.toString();
    }

    private static void prints(String example, String printed) {
        List<String> lines = new ArrayList<>(printed.lines().toList());
        StringBuilder got = new StringBuilder();
        StringBuilder due = new StringBuilder();
        Matcher line = PRINTING.matcher(example);
        int amount = 0;
        while (line.find()) {
            String answer = amount < lines.size() ? lines.get(amount) : "";
            got.append(line.group(1)).append(" // ").append(answer).append('\n');
            due.append(line.group(1)).append(" // ").append(line.group(2)).append('\n');
            amount++;
        }
        C.same("the example", got.toString(), due.toString());
        C.due("lines that the example prints", lines.size(), amount);
        C.due("lines of the example that print without an answer", example.split("println").length - 1, amount);
    }

    private static void callsEachMethod(String example) {
        for (Method method : TrackArray.class.getDeclaredMethods()) {
            if (Modifier.isPublic(method.getModifiers())) {
                String call = "array." + method.getName() + "(";
                C.due("the example calls " + call + "..)", example.contains(call), true);
            }
        }
    }

    private static void namesEachTest(String readme) throws IOException {
        Set<String> named = new TreeSet<>();
        Matcher test = TEST.matcher(readme);
        while (test.find()) {
            named.add(test.group(1) == null ? test.group(2) : test.group(1));
        }
        Set<String> present = new TreeSet<>();
        try (Stream<Path> files = Files.list(TESTS)) {
            files.map(file -> file.getFileName().toString().replace(".java", ""))
                    .filter(name -> name.matches("\\w+(Test|Sentences)|Fingerprint")).forEach(present::add);
        }
        C.same("the tests named", String.join("\n", named), String.join("\n", present));
    }

    private static void remove(Path place) throws IOException {
        try (Stream<Path> files = Files.walk(place)) {
            for (Path file : files.sorted(Comparator.reverseOrder()).toList()) {
                Files.delete(file);
            }
        }
    }
}
