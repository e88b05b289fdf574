import java.io.IOException;
import java.nio.file.Files;
import java.nio.file.Path;
import java.util.ArrayList;
import java.util.List;

/** The sentences of ../shared/DOC.md that a test can stand for, each with the tests that name it. */
final class Document {
    /** What belongs to no promise alone: from "What it is" to the constants. */
    static final int DESCRIPTION = 0;

    /** A sentence, a line of a list or of a table; a letter is told once a test quotes it. */
    private static final class Unit {
        final int promise;
        final String text;
        final boolean[] told;

        Unit(int promise, String text) {
            this.promise = promise;
            this.text = text;
            this.told = new boolean[text.length()];
        }

        boolean tell(String quote) {
            int at = text.indexOf(quote);
            for (int k = at; at >= 0 && k < at + quote.length(); k++) {
                told[k] = true;
            }
            return at >= 0;
        }

        String untold() {
            StringBuilder rest = new StringBuilder();
            for (int k = 0; k < told.length; k++) {
                rest.append(told[k] ? '_' : text.charAt(k));
            }
            return rest.toString().matches("[^A-Za-z0-9]*") ? "" : rest.toString();
        }
    }

    private final List<Unit> units = new ArrayList<>();

    Document(Path file) throws IOException {
        String text = Files.readString(file);
        String start = "An object is used for";
        String end = "The constructor and the methods follow";
        addSentences(text.substring(text.indexOf(start), text.indexOf("## The public face")));
        addSentences(text.substring(text.indexOf("## Description"), text.indexOf(end)));
        String promises = text.substring(text.indexOf("## Promise 1:"), text.indexOf("## Not promised"));
        for (String section : promises.split("(?m)^## Promise ")) {
            if (!section.isBlank()) {
                addPromise(section);
            }
        }
    }

    private void addSentences(String text) {
        for (String line : text.split("\n")) {
            if (!line.matches("#.*|[A-Z ]*|The constants:")) {
                addLine(DESCRIPTION, line);
            }
        }
    }

    private void addPromise(String section) {
        int promise = Integer.parseInt(section.substring(0, section.indexOf(':')));
        String[] lines = section.split("\n");
        for (int k = 1; k < lines.length; k++) {
            if (!lines[k].matches("----.*|`.*|\\s*")) {
                addLine(promise, lines[k]);
            }
        }
    }

    private void addLine(int promise, String line) {
        for (String sentence : line.split("(?<=[.]) (?=[A-Z\"])")) {
            units.add(new Unit(promise, plain(sentence)));
        }
    }

    private static String plain(String text) {
        return text.strip().replaceAll("\\s+", " ");
    }

    int size() {
        return units.size();
    }

    /** Says that a test stands for a sentence; false if the document has no such sentence there. */
    boolean tell(int promise, String sentence) {
        String quote = plain(sentence);
        boolean found = false;
        for (Unit unit : units) {
            if (unit.promise == promise) {
                found |= unit.tell(quote);
            }
        }
        for (Unit unit : units) {
            if (!found && unit.promise == DESCRIPTION) {
                found = unit.tell(quote);
            }
        }
        return found;
    }

    /** The sentences that no test stands for, with _ for what tests quote of them. */
    List<String> untold() {
        List<String> found = new ArrayList<>();
        for (Unit unit : units) {
            if (!unit.untold().isEmpty()) {
                found.add((unit.promise == DESCRIPTION ? "" : "promise " + unit.promise + ": ") + unit.untold());
            }
        }
        return found;
    }
}
