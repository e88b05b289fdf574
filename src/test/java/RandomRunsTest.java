import java.lang.reflect.InvocationTargetException;
import java.lang.reflect.Method;
import java.util.ArrayList;
import java.util.Comparator;
import java.util.List;
import java.util.Random;

/** Makes the same calls on a TrackArray and on the Model and compares all answers and exceptions. */
public final class RandomRunsTest {
    private static final int RUNS = 260;
    private static final int CALLS = 200;
    /** An object is used for so many calls: what later ones answer is free. */
    private static final int MOST_CALLS = 512;

    private final Checks checks = new Checks("RandomRunsTest");
    private final List<Method> face = new ArrayList<>();
    private final StringBuilder log = new StringBuilder();
    private Random random;
    private TrackArray array;
    private Model model;
    private int made;

    public static void main(String[] args) throws Exception {
        new RandomRunsTest().runAll();
    }

    private void runAll() throws Exception {
        for (Method method : TrackArray.class.getDeclaredMethods()) {
            if (java.lang.reflect.Modifier.isPublic(method.getModifiers())) {
                face.add(method);
            }
        }
        face.sort(Comparator.comparing(Method::getName));
        for (int run = 0; run < RUNS; run++) {
            random = new Random(run);
            array = new TrackArray();
            model = new Model();
            made = 0;
            log.setLength(0);
            prepare();
            for (int call = 0; call < CALLS; call++) {
                anyCall();
            }
        }
        checks.end();
    }

    private int pick(int least, int most) {
        return least + random.nextInt(most - least + 1);
    }

    /** The number of a vehicle (0), a source (1) or a microphone (2), now and then one that there is not. */
    private int which(int what) {
        int there = model.count(what);
        return there == 0 || random.nextInt(15) == 0 ? (random.nextBoolean() ? -1 : there) : pick(0, there - 1);
    }

    /** Numbers near the middle are the interesting ones, so that what sounds is also heard. */
    private void prepare() throws Exception {
        boolean near = random.nextInt(4) != 0;
        int reach = near ? 2000 : 20000;
        call("setSound", pick(100, near ? 400 : 1000));
        call("setGround", pick(-90, 90));
        call("setSpreading", random.nextBoolean());
        call("setCut", random.nextInt(3) != 0);
        if (random.nextInt(3) == 0) {
            call("setNoise", random.nextInt() & Integer.MAX_VALUE, pick(0, 99));
        }
        for (int k = random.nextInt(9) == 0 ? 0 : pick(1, 4); k > 0; k--) {
            call("addVehicle", pick(-reach, reach), pick(-50, 50), pick(100, near ? 1500 : 5000));
        }
        for (int k = random.nextInt(9) == 0 ? 0 : pick(1, 6); k > 0; k--) {
            call("addSource", which(0), pick(-1000, 1000), pick(0, 500), pick(1, 10), pick(-99, 99));
        }
        for (int k = pick(0, 40); k > 0; k--) {
            call("addValue", which(1), pick(-99, 99));
        }
        for (int k = random.nextInt(9) == 0 ? 0 : pick(1, 9); k > 0; k--) {
            call("addMicrophone", pick(-reach / 4, reach / 4), pick(-100, 99), pick(0, 500), pick(0, 9));
        }
        call("makeRecording");
        call("save", pick(0, 1));
    }

    private void anyCall() throws Exception {
        int turn = random.nextInt(100);
        if (turn < 2) {
            loadSomething();
            if (random.nextBoolean()) {
                call("restore", pick(0, 1));
            } else {
                prepare();
            }
        } else if (turn < 9) {
            focus();
        } else {
            Method method = face.get(random.nextInt(face.size()));
            boolean rare = method.getName().equals("scan") || method.getName().equals("load")
                    || method.getName().equals("makeRecording");
            if (!rare || random.nextInt(3) == 0) {
                call(method, anyArguments(method));
            }
        }
    }

    private void focus() throws Exception {
        switch (random.nextInt(3)) {
            case 0 -> call("focusOnVehicle", which(0), pick(-1000, 1000), pick(0, 500));
            case 1 -> call("focusOnPlace", pick(-3000, 3000), pick(100, 1500), pick(0, 500));
            default -> call("focusOnDirection", pick(-100, 100));
        }
    }

    // ---- arguments

    private Object[] anyArguments(Method method) {
        Class<?>[] types = method.getParameterTypes();
        Object[] arguments = new Object[types.length];
        for (int k = 0; k < types.length; k++) {
            arguments[k] = types[k] == boolean.class ? (Object) random.nextBoolean() : (Object) anyNumber();
        }
        boolean wild = random.nextInt(8) == 0;
        if (!wild) {
            tame(method.getName(), arguments);
        }
        return arguments;
    }

    private int anyNumber() {
        int[] edges = {-1, 0, 1, 2, 3, 4, 5, 6, 7, 8, 9, 10, 15, 16, 17, 20, 21, 50, 51, 63, 64, 65, 90, 91, 99, 100,
            101, 254, 255, 256, 257, 500, 501, 1000, 1001, 2000, 2001, 5000, 5001, 20000, 20001,
            Integer.MAX_VALUE, Integer.MIN_VALUE};
        int number = edges[random.nextInt(edges.length)];
        return random.nextInt(3) == 0 ? -number : number;
    }

    /** Arguments in their ranges, or a little beyond. */
    private void tame(String name, Object[] a) {
        int last = a.length - 1;
        switch (name) {
            case "measureRecord" -> set(a, which(2), in(0, 4));
            case "loudestWindow" -> set(a, which(2), in(1, 256));
            case "correlation" -> set(a, which(2), which(2), in(-255, 255));
            case "bestLag" -> set(a, which(2), which(2), in(0, 255));
            case "sample", "sampleNumber", "part" -> set(a, which(2), in(0, 255));
            case "emitted" -> set(a, which(1), in(0, 255));
            case "distance", "emissionTime" -> set(a, which(2), which(1), in(0, 255));
            case "passTime" -> set(a, which(0), which(2));
            case "beam" -> set(a, in(0, 255));
            case "measureBeam" -> set(a, in(0, 4));
            case "periodPower", "bestPeriod" -> set(a, in(1, 64));
            case "energyBeside" -> set(a, random.nextBoolean() ? in(-200, 200) : in(-2000, 2000));
            case "scan" -> set(a, in(1, 100), in(0, random.nextInt(9) == 0 ? 20 : 4));
            case "bestDirection" -> set(a, in(1, 100));
            case "spectrum" -> set(a, in(-100, 100), in(1, 64));
            case "count", "truncateText" -> set(a, in(0, 4));
            case "save", "restore" -> set(a, in(0, 1));
            case "setWeight" -> set(a, which(2), in(0, 9));
            case "addValue" -> set(a, which(1), in(-99, 99));
            case "addSource" -> set(a, which(0), in(-1000, 1000), in(0, 500), in(1, 10), in(-99, 99));
            case "setGround" -> set(a, in(-90, 90));
            case "setSound" -> set(a, in(100, 1000));
            case "setNoise" -> set(a, in(0, 1000000), in(0, 99));
            default -> { }
        }
        boolean windowed = List.of("measureRecord", "loudestMicrophone", "meanPower", "crest", "measureBeam",
                "periodPower", "bestPeriod", "energyBeside", "scan", "bestDirection", "spectrum").contains(name);
        if (windowed) {
            int first = pick(0, 255);
            a[last - 1] = random.nextInt(3) == 0 ? 0 : first;
            a[last] = random.nextInt(3) == 0 ? 255 : pick(first, 255);
        }
    }

    private static void set(Object[] arguments, int... chosen) {
        for (int k = 0; k < chosen.length; k++) {
            arguments[k] = chosen[k];
        }
    }

    /** A number in a range, now and then the one behind it. */
    private int in(int least, int most) {
        return random.nextInt(40) == 0 ? most + 1 : pick(least, most);
    }

    // ---- texts

    private void loadSomething() throws Exception {
        call("truncateText", 0);
        String text = random.nextInt(40) == 0 ? fullText() : anySetup();
        if (random.nextInt(2) == 0) {
            text = spoil(text);
        }
        write(text);
        call("load");
        call("errorCode");
        call("errorPosition");
        for (int what = 0; what <= 3; what++) {
            call("count", what);
        }
        if (random.nextInt(2) == 0) {
            call("makeRecording");
        }
    }

    private String fullText() {
        StringBuilder text = new StringBuilder();
        while (text.length() < 500) {
            text.append(" spreading ;");
        }
        return text.substring(0, random.nextBoolean() ? 500 : 499);
    }

    private String anySetup() {
        StringBuilder text = new StringBuilder();
        int many = pick(0, 14);
        String favourite = new String[] {"mic", "vehicle", "source", ""}[random.nextInt(4)];
        for (int k = 0; k < many; k++) {
            String word = new String[] {"mic", "vehicle", "source", "sound", "ground", "noise", "spreading",
                favourite, favourite, favourite}[random.nextInt(10)];
            text.append(blank(false)).append(statement(word.isEmpty() ? "mic" : word)).append(blank(false)).append(';');
        }
        return text.append(blank(false)).toString();
    }

    private String statement(String word) {
        return word + switch (word) {
            case "mic" -> number(-5000, 5000) + number(-100, 99) + number(0, 500) + number(0, 9);
            case "vehicle" -> number(-20000, 20000) + number(-50, 50) + number(100, 5000);
            case "source" -> number(0, 3) + number(-1000, 1000) + number(0, 500) + number(1, 10) + values();
            case "sound" -> number(100, 1000);
            case "ground" -> number(-90, 90);
            case "noise" -> number(0, 99);
            default -> "";
        };
    }

    private String values() {
        StringBuilder text = new StringBuilder();
        int many = random.nextInt(4) == 0 ? pick(15, 18) : pick(1, 5);
        for (int k = 0; k < many; k++) {
            text.append(number(-99, 99));
        }
        return text.toString();
    }

    private String number(int least, int most) {
        int value = pick(least, most);
        switch (random.nextInt(24)) {
            case 0 -> value = least;
            case 1 -> value = most;
            case 2 -> value = random.nextInt(3) == 0 ? most + 1 : value;
            case 3 -> value = random.nextInt(3) == 0 ? least - 1 : value;
            default -> { }
        }
        String digits = Integer.toString(Math.abs(value));
        if (random.nextInt(12) == 0) {
            digits = "0000000000000000".substring(pick(0, 15)) + digits;
        }
        if (random.nextInt(150) == 0) {
            digits = digits + "99999999999999";
        }
        return value < 0 ? blank(false) + "-" + blank(false) + digits : blank(true) + digits;
    }

    private String blank(boolean needed) {
        return switch (random.nextInt(6)) {
            case 0 -> "\n";
            case 1 -> "  ";
            case 2 -> needed ? " " : "";
            default -> " ";
        };
    }

    private String spoil(String text) {
        if (text.isEmpty()) {
            return text;
        }
        int at = random.nextInt(text.length());
        String signs = "abcmicz059;- \n\tA~_`{/:\u0000\u00ff\u0080";
        char sign = signs.charAt(random.nextInt(signs.length()));
        return switch (random.nextInt(4)) {
            case 0 -> text.substring(0, at);
            case 1 -> text.substring(0, at) + sign + text.substring(at);
            case 2 -> text.substring(0, at) + sign + text.substring(at + 1);
            default -> text.substring(0, at) + text.substring(at + 1);
        };
    }

    private void write(String whole) throws Exception {
        String text = whole.substring(0, Math.min(whole.length(), 500));
        StringBuilder filled = new StringBuilder(text);
        while (filled.length() % 4 != 0) {
            filled.append(' ');
        }
        for (int index = 0; index < filled.length(); index += 4) {
            int word = 0;
            for (int each = 0; each < 4; each++) {
                word = word << 8 | filled.charAt(index + each) & 255;
            }
            call("appendText", word);
        }
        call("truncateText", text.length());
        log.append("  the text: ").append(text.replace("\n", "\\n")).append('\n');
    }

    // ---- calls

    private void call(String name, Object... arguments) throws Exception {
        for (Method method : face) {
            if (method.getName().equals(name)) {
                call(method, arguments);
                return;
            }
        }
        throw new IllegalStateException("no method " + name);
    }

    private void call(Method method, Object... arguments) throws Exception {
        if (made == MOST_CALLS) {
            return;
        }
        made++;
        StringBuilder said = new StringBuilder(method.getName()).append(java.util.Arrays.toString(arguments));
        String got = answer(method, array, arguments);
        String want = answer(Model.class.getMethod(method.getName(), method.getParameterTypes()), model, arguments);
        log.append("  ").append(said).append(" -> ").append(want).append('\n');
        checks.due("calls alike", got.equals(want), true);
        if (!got.equals(want)) {
            System.out.println(log);
            checks.complain(said + " answered " + got + ", due is " + want);
            checks.end();
        }
    }

    private static String answer(Method method, Object object, Object[] arguments) throws Exception {
        try {
            return String.valueOf(method.invoke(object, arguments));
        } catch (InvocationTargetException e) {
            return "throws " + e.getCause().getClass().getName();
        }
    }
}
