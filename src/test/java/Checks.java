import java.util.function.BiConsumer;
import java.util.function.IntConsumer;

/** Compares answers with the ones that are due, and ends the program with 1 if there was a wrong one. */
final class Checks {
    private final String name;
    private String subject;
    private int made;
    private int wrong;

    Checks(String name) {
        this.name = name;
        this.subject = name;
    }

    /** What the checks that follow are about: what goes wrong in them is told under this name. */
    void about(String newSubject) {
        subject = newSubject;
    }

    void due(String call, long got, long want) {
        made++;
        if (got != want) {
            complain(call + " answered " + got + ", due is " + want);
        }
    }

    void due(String call, boolean got, boolean want) {
        due(call, got ? 1 : 0, want ? 1 : 0);
    }

    void dueDouble(String call, double got, double want) {
        made++;
        if (Double.compare(got, want) != 0) {
            complain(call + " answered " + got + ", due is " + want);
        }
    }

    /** Compares two texts of many lines, and tells the first one that differs. */
    void same(String what, String got, String want) {
        made++;
        String[] gotLines = got.split("\n");
        String[] wantLines = want.split("\n");
        for (int k = 0; k < gotLines.length && k < wantLines.length; k++) {
            if (!gotLines[k].equals(wantLines[k])) {
                complain(what + ": " + gotLines[k] + ", due is " + wantLines[k]);
                return;
            }
        }
        if (gotLines.length != wantLines.length) {
            complain(what + ": " + gotLines.length + " lines, due are " + wantLines.length);
        }
    }

    /** Checks that a call throws an exception of exactly this class. */
    void dueThrow(String call, Class<? extends RuntimeException> want, Runnable caller) {
        made++;
        try {
            caller.run();
        } catch (RuntimeException e) {
            if (e.getClass() != want) {
                complain(call + " threw " + e + ", due is " + want.getName());
            }
            return;
        }
        complain(call + " threw nothing, due is " + want.getName());
    }

    void illegal(String call, Runnable caller) {
        dueThrow(call, IllegalArgumentException.class, caller);
    }

    void outside(String call, Runnable caller) {
        dueThrow(call, IndexOutOfBoundsException.class, caller);
    }

    void refused(String call, Runnable caller) {
        dueThrow(call, IllegalStateException.class, caller);
    }

    /** Checks that an argument may be from least to most, and that all others are refused. */
    void range(String call, int least, int most, IntConsumer caller) {
        for (int right : new int[] {least, most, least + (most - least) / 2}) {
            made++;
            try {
                caller.accept(right);
            } catch (RuntimeException e) {
                complain(call + " with " + right + " threw " + e);
            }
        }
        for (long bad : new long[] {least - 1L, most + 1L, Integer.MIN_VALUE, Integer.MAX_VALUE}) {
            if ((bad < least || bad > most) && bad == (int) bad) {
                illegal(call + " with " + bad, () -> caller.accept((int) bad));
            }
        }
    }

    /** Checks that the two arguments of a window are refused outside 0 to 255 and in the wrong order. */
    void window(String call, BiConsumer<Integer, Integer> caller) {
        int[][] right = {{0, 0}, {0, 255}, {255, 255}, {100, 101}};
        int[][] bad = {{-1, 0}, {-1, -1}, {0, 256}, {256, 256}, {256, 300}, {1, 0}, {255, 254}, {0, -1},
            {Integer.MIN_VALUE, Integer.MAX_VALUE}, {0, Integer.MAX_VALUE}, {Integer.MIN_VALUE, 10}};
        for (int[] pair : right) {
            made++;
            try {
                caller.accept(pair[0], pair[1]);
            } catch (RuntimeException e) {
                complain(call + " in " + pair[0] + ", " + pair[1] + " threw " + e);
            }
        }
        for (int[] pair : bad) {
            illegal(call + " in " + pair[0] + ", " + pair[1], () -> caller.accept(pair[0], pair[1]));
        }
    }

    /** Checks that there is nothing with the numbers beside 0 to amount - 1. */
    void numbers(String call, int amount, IntConsumer caller) {
        for (int number : new int[] {0, amount - 1}) {
            made++;
            try {
                caller.accept(number);
            } catch (RuntimeException e) {
                complain(call + " of " + number + " threw " + e);
            }
        }
        for (int number : new int[] {-1, amount, Integer.MIN_VALUE, Integer.MAX_VALUE}) {
            outside(call + " of " + number, () -> caller.accept(number));
        }
    }

    void complain(String what) {
        wrong++;
        if (wrong <= 40) {
            System.out.println(subject + ": " + what);
        }
    }

    void end() {
        System.out.println(name + ": " + made + " checks, " + wrong + " wrong");
        if (wrong != 0) {
            System.exit(1);
        }
    }

    /** Appends a text, filled up with spaces to a multiple of four and cut to its length again. */
    static void write(TrackArray array, String text) {
        StringBuilder filled = new StringBuilder(text);
        while (filled.length() % 4 != 0) {
            filled.append(' ');
        }
        int length = 0;
        for (int index = 0; index < filled.length(); index += 4) {
            int word = 0;
            for (int each = 0; each < 4; each++) {
                word = word << 8 | filled.charAt(index + each) & 255;
            }
            length = array.appendText(word);
        }
        if (filled.length() != text.length()) {
            array.truncateText(length - (filled.length() - text.length()));
        }
    }

    static int loadText(TrackArray array, String text) {
        write(array, text);
        return array.load();
    }
}
