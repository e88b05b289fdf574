/** Compares answers with the ones that are due, and ends the program with 1 if there was a wrong one. */
final class Checks {
    private final String name;
    private int made;
    private int wrong;

    Checks(String name) {
        this.name = name;
    }

    void due(String call, long got, long want) {
        made++;
        if (got != want) {
            complain(call + " answered " + got + ", due is " + want);
        }
    }

    void due(String call, boolean got, boolean want) {
        due(call, got ? 1 : 0, want ? 1 : 0);
    }

    void dueDouble(String call, double got, double want) {
        made++;
        if (Double.compare(got, want) != 0) {
            complain(call + " answered " + got + ", due is " + want);
        }
    }

    /** Checks that a call throws an exception of exactly this class. */
    void dueThrow(String call, Class<? extends RuntimeException> want, Runnable made1) {
        made++;
        try {
            made1.run();
        } catch (RuntimeException e) {
            if (e.getClass() != want) {
                complain(call + " threw " + e + ", due is " + want.getName());
            }
            return;
        }
        complain(call + " threw nothing, due is " + want.getName());
    }

    void illegal(String call, Runnable made1) {
        dueThrow(call, IllegalArgumentException.class, made1);
    }

    void outside(String call, Runnable made1) {
        dueThrow(call, IndexOutOfBoundsException.class, made1);
    }

    void refused(String call, Runnable made1) {
        dueThrow(call, IllegalStateException.class, made1);
    }

    void complain(String what) {
        wrong++;
        if (wrong <= 40) {
            System.out.println(name + ": " + what);
        }
    }

    void end() {
        System.out.println(name + ": " + made + " checks, " + wrong + " wrong");
        if (wrong != 0) {
            System.exit(1);
        }
    }

    /** Appends a text, filled up with spaces to a multiple of four and cut to its length again. */
    static void write(TrackArray array, String text) {
        StringBuilder filled = new StringBuilder(text);
        while (filled.length() % 4 != 0) {
            filled.append(' ');
        }
        int length = 0;
        for (int index = 0; index < filled.length(); index += 4) {
            int word = 0;
            for (int each = 0; each < 4; each++) {
                word = word << 8 | filled.charAt(index + each) & 255;
            }
            length = array.appendText(word);
        }
        if (filled.length() != text.length()) {
            array.truncateText(length - (filled.length() - text.length()));
        }
    }

    static int loadText(TrackArray array, String text) {
        write(array, text);
        return array.load();
    }
}
