import java.lang.reflect.InvocationTargetException;
import java.lang.reflect.Method;
import java.nio.file.Path;
import java.util.Arrays;
import java.util.Comparator;
import java.util.List;

/** Runs the test of each sentence of the document, and sees that each sentence has one. */
public final class SentencesTest {
    private static final Checks C = new Checks("SentencesTest");

    /** With the words of a sentence as arguments, only the tests of sentences that hold them are run. */
    public static void main(String[] args) throws Exception {
        String wanted = String.join(" ", args);
        Document document = new Document(Path.of("../shared/DOC.md"));
        List<Sentences> all = List.of(new SetupSentences(), new PathSentences(), new RecordSentences(),
                new FocusSentences(), new CutSentences(), new BeamSentences(), new TextSentences(),
                new SaveSentences(), new ExceptionSentences());
        int amount = 0;
        for (Sentences each : all) {
            amount += runAll(each, document, wanted);
        }
        if (wanted.isEmpty()) {
            C.about("../shared/DOC.md");
            document.untold().forEach(sentence -> C.complain("no test stands for: " + sentence));
        }
        System.out.println("SentencesTest: " + amount + " tests for " + document.size() + " sentences");
        C.end();
    }

    private static int runAll(Sentences tests, Document document, String wanted) throws Exception {
        Method[] methods = tests.getClass().getDeclaredMethods();
        Arrays.sort(methods, Comparator.comparing(Method::getName));
        int amount = 0;
        for (Method method : methods) {
            Says says = method.getAnnotation(Says.class);
            if (says == null || !says.sentence().contains(wanted)) {
                continue;
            }
            C.about(tests.getClass().getSimpleName() + "." + method.getName() + ", promise " + says.promise() + ", \""
                    + says.sentence() + "\"");
            if (!document.tell(says.promise(), says.sentence())) {
                C.complain("the document does not say this there");
            }
            run(tests, method);
            amount++;
        }
        return amount;
    }

    private static void run(Sentences tests, Method method) throws IllegalAccessException {
        tests.c = C;
        try {
            method.invoke(tests);
        } catch (InvocationTargetException e) {
            C.complain("threw " + e.getCause() + " at " + e.getCause().getStackTrace()[0]);
        }
    }
}
