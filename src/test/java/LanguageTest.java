import java.io.PrintWriter;
import java.io.StringWriter;
import java.net.URI;
import java.nio.file.Files;
import java.nio.file.Path;
import java.util.ArrayList;
import java.util.HashMap;
import java.util.List;
import java.util.Map;
import java.util.regex.Matcher;
import java.util.regex.Pattern;
import java.util.spi.ToolProvider;
import java.util.stream.Stream;

/** How the class is written: how deep its calls go, and what of the library and the machine it uses. */
public final class LanguageTest {
    private static final int DEEPEST = 8;
    private static final Checks C = new Checks("LanguageTest");
    private static final Pattern CLASS = Pattern.compile("^(?:.* )?class (TrackArray[$\\w]*).*\\{$");
    private static final Pattern METHOD = Pattern.compile("^  .*?([$\\w]+)\\((.*)\\).*;$");
    private static final Pattern CALL = Pattern.compile("invoke\\w+ .*// (?:Interface)?Method (\\S+):");

    private final Map<String, List<String>> calls = new HashMap<>();

    public static void main(String[] args) throws Exception {
        LanguageTest test = new LanguageTest();
        test.read(disassembled());
        C.due("methods found", test.calls.size() > 80, true);
        for (String method : test.calls.keySet()) {
            test.depth(method, new ArrayList<>());
        }
        C.end();
    }

    private static String disassembled() throws Exception {
        URI place = LanguageTest.class.getProtectionDomain().getCodeSource().getLocation().toURI();
        List<String> arguments = new ArrayList<>(List.of("-c", "-p"));
        try (Stream<Path> files = Files.list(Path.of(place))) {
            files.map(Path::toString).filter(name -> name.matches(".*TrackArray(\\$\\w+)?\\.class"))
                    .forEach(arguments::add);
        }
        StringWriter text = new StringWriter();
        PrintWriter writer = new PrintWriter(text);
        ToolProvider.findFirst("javap").orElseThrow().run(writer, writer, arguments.toArray(new String[0]));
        return text.toString();
    }

    private void read(String text) {
        String inside = "";
        String method = "";
        for (String line : text.split("\n")) {
            Matcher isClass = CLASS.matcher(line);
            Matcher isMethod = METHOD.matcher(line);
            Matcher isCall = CALL.matcher(line);
            if (isClass.matches()) {
                inside = isClass.group(1);
            } else if (isMethod.matches()) {
                boolean made = isMethod.group(1).equals(inside);
                method = inside + "." + (made ? "\"<init>\"" : isMethod.group(1));
                calls.putIfAbsent(method, new ArrayList<>());
            } else if (isCall.find()) {
                String called = isCall.group(1);
                String whole = called.contains(".") ? called : inside + "." + called;
                calls.get(method).add(whole);
                library(whole);
            } else if (line.contains("Exception table:")) {
                C.complain(method + " catches something");
            }
        }
    }

    /** What LANGUAGE.md allows, as far as it is used. */
    private static void library(String called) {
        List<String> allowed = List.of("java/lang/Object.\"<init>\"", "java/lang/Math.max", "java/lang/Math.min",
                "java/lang/Math.abs", "java/lang/Math.floorDiv", "java/util/Arrays.fill", "java/lang/System.arraycopy",
                "java/lang/String.length", "java/lang/String.charAt",
                "java/lang/IllegalArgumentException.\"<init>\"", "java/lang/IllegalStateException.\"<init>\"",
                "java/lang/IndexOutOfBoundsException.\"<init>\"");
        C.due(called + " is allowed", called.startsWith("TrackArray") || allowed.contains(called), true);
    }

    private int depth(String method, List<String> open) {
        if (!calls.containsKey(method)) {
            return 0;
        }
        if (open.contains(method)) {
            C.complain("recursion: " + open + " " + method);
            return 0;
        }
        List<String> deeper = new ArrayList<>(open);
        deeper.add(method);
        if (deeper.size() > DEEPEST) {
            C.complain("too deep: " + deeper);
        }
        int deepest = 0;
        for (String called : calls.get(method)) {
            deepest = Math.max(deepest, depth(called, deeper));
        }
        return deepest + 1;
    }
}
