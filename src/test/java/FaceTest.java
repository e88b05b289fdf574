import java.lang.reflect.Constructor;
import java.lang.reflect.Field;
import java.lang.reflect.Method;
import java.lang.reflect.Modifier;
import java.util.Set;
import java.util.TreeSet;

/** The public face of the class: just what the document names, and nothing that several objects share. */
public final class FaceTest {
    private static final String I = "IllegalArgumentException";
    private static final String B = "IndexOutOfBoundsException";
    private static final String S = "IllegalStateException";
    private static final Checks C = new Checks("FaceTest");

    public static void main(String[] args) {
        constants();
        methods();
        fields();
        apart();
        C.end();
    }

    private static void constants() {
        C.due("NONE", TrackArray.NONE, -1);
        int modifiers = TrackArray.class.getModifiers();
        C.due("the class is public and final", Modifier.isPublic(modifiers) && Modifier.isFinal(modifiers), true);
        C.due("constructors", TrackArray.class.getDeclaredConstructors().length, 1);
        for (Constructor<?> constructor : TrackArray.class.getDeclaredConstructors()) {
            C.due("a public constructor", Modifier.isPublic(constructor.getModifiers()), true);
            C.due("its parameters", constructor.getParameterCount(), 0);
        }
    }

    private static void methods() {
        Set<String> due = new TreeSet<>(Set.of(
                "int setSound(int) " + I, "int setGround(int) " + I, "boolean setSpreading(boolean)",
                "void setNoise(int, int) " + I));
        due.addAll(Set.of("int addVehicle(int, int, int) " + I + " " + S,
                "int addSource(int, int, int, int, int) " + B + " " + I + " " + S,
                "int addValue(int, int) " + B + " " + I + " " + S,
                "int addMicrophone(int, int, int, int) " + I + " " + S,
                "int setWeight(int, int) " + B + " " + I, "int count(int) " + I, "int emitted(int, int) " + B + " " + I,
                "int distance(int, int, int, boolean) " + B + " " + I,
                "int emissionTime(int, int, int, boolean) " + B + " " + I, "int passTime(int, int) " + B));
        due.addAll(Set.of("int makeRecording()", "int sample(int, int) " + B + " " + I,
                "long measureRecord(int, int, int, int) " + B + " " + I, "int loudestMicrophone(int, int) " + I,
                "int loudestWindow(int, int) " + B + " " + I, "long correlation(int, int, int) " + B + " " + I,
                "int bestLag(int, int, int) " + B + " " + I, "void focusOnVehicle(int, int, int) " + B + " " + I,
                "void focusOnPlace(int, int, int) " + I, "void focusOnDirection(int) " + I));
        due.addAll(Set.of("boolean setCut(boolean)", "int sampleNumber(int, int) " + B + " " + I,
                "int part(int, int) " + B + " " + I, "int beam(int) " + I, "long measureBeam(int, int, int) " + I,
                "long periodPower(int, int, int) " + I, "int bestPeriod(int, int, int) " + I,
                "long energyBeside(int, int, int) " + I, "int scan(int, int, int, int) " + I,
                "int bestDirection(int, int, int) " + I));
        due.addAll(Set.of("long spectrum(int, int, int, int) " + I, "double meanPower(int, int) " + I,
                "float crest(int, int) " + I, "int appendText(int) " + S, "int truncateText(int) " + I, "int load()",
                "int errorCode()", "int errorPosition()", "void save(int) " + I, "void restore(int) " + I + " " + S));
        Set<String> found = new TreeSet<>();
        Set<String> hidden = new TreeSet<>();
        for (Method method : TrackArray.class.getDeclaredMethods()) {
            if (Modifier.isPublic(method.getModifiers())) {
                found.add(said(method));
            } else {
                C.due(method.getName() + " is private", Modifier.isPrivate(method.getModifiers()), true);
                hidden.add(method.getName());
            }
        }
        if (!found.equals(due)) {
            C.complain("the face is " + found + ", due is " + due);
        }
        for (String each : found) {
            String name = each.replaceFirst("^\\w+ (\\w+).*$", "$1");
            C.due(name + " is no private method too", hidden.contains(name), false);
        }
    }

    private static String said(Method method) {
        StringBuilder text = new StringBuilder();
        text.append(method.getReturnType().getSimpleName()).append(' ').append(method.getName()).append('(');
        for (Class<?> type : method.getParameterTypes()) {
            text.append(text.charAt(text.length() - 1) == '(' ? "" : ", ").append(type.getSimpleName());
        }
        text.append(')');
        for (Class<?> type : method.getExceptionTypes()) {
            text.append(' ').append(type.getSimpleName());
        }
        return text.toString();
    }

    private static void fields() {
        for (Field field : TrackArray.class.getDeclaredFields()) {
            int modifiers = field.getModifiers();
            boolean none = field.getName().equals("NONE") && Modifier.isPublic(modifiers);
            C.due(field.getName() + " is NONE or private", none || Modifier.isPrivate(modifiers), true);
            C.due(field.getName() + " is final", Modifier.isFinal(modifiers), true);
        }
        for (Class<?> inside : TrackArray.class.getDeclaredClasses()) {
            C.due(inside + " is static", Modifier.isStatic(inside.getModifiers()), true);
            C.due(inside + " is hidden", Modifier.isPublic(inside.getModifiers()), false);
            for (Field field : inside.getDeclaredFields()) {
                int modifiers = field.getModifiers();
                C.due(field + " is final or of an object",
                        !Modifier.isStatic(modifiers) || Modifier.isFinal(modifiers), true);
            }
        }
    }

    /** Two objects know nothing of one another. */
    private static void apart() {
        TrackArray one = Scenes.recorded();
        TrackArray other = Scenes.full();
        other.setSound(777);
        other.save(0);
        Checks.loadText(other, "noise 200;");
        C.due("the record of the one", one.sample(0, 1), 10);
        C.due("the sound of the one", one.setSound(100), 100);
        C.due("the error of the one", one.errorCode(), 0);
        C.refused("the slot of the one", () -> one.restore(0));
    }
}
