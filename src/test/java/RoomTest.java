import java.lang.management.ManagementFactory;

/** How much the dearest calls make, for all calls of one run live in one room. */
public final class RoomTest {
    private static final Checks C = new Checks("RoomTest");

    public static void main(String[] args) {
        for (int turn = 0; turn < 3; turn++) {
            dearest(8);
        }
        long before = made();
        dearest(60);
        long bytes = made() - before;
        C.due("60 turns of the dearest calls make " + bytes + " bytes, more than 60000", bytes > 60000, false);
        before = made();
        TrackArray x = new TrackArray();
        bytes = made() - before;
        C.due("a new array makes " + bytes + " bytes, more than 100000", bytes > 100000, false);
        C.due("it is used", x.count(0), 0);
        C.end();
    }

    private static long made() {
        com.sun.management.ThreadMXBean bean = (com.sun.management.ThreadMXBean) ManagementFactory.getThreadMXBean();
        return bean.getThreadAllocatedBytes(Thread.currentThread().getId());
    }

    private static final TrackArray X = new TrackArray();

    private static void dearest(int calls) {
        X.truncateText(0);
        append("vehicle 0 50 100;source 0 0 500 1 1 2 3;sound 100;ground 90;spreading; noise 5; ");
        append("mic 0 0 1 1;mic 9 0 9 1;mic 0 0 0 1;mic 9 0 0 1;mic 0 0 0 1;mic 9 0 9 1;mic 0 0 0 1;mic 9 0 9 1;    ");
        C.due("load()", X.load(), 14);
        X.makeRecording();
        X.setCut(true);
        X.focusOnVehicle(0, 0, 500);
        for (int call = 0; call < calls; call++) {
            X.scan(100, 20, 0, 255);
            X.bestDirection(1, 0, 255);
            X.bestPeriod(64, 0, 255);
            X.bestLag(0, 1, 255);
            X.loudestWindow(0, 128);
            X.crest(0, 255);
            X.makeRecording();
            X.save(call % 2);
            X.restore(call % 2);
        }
    }

    private static void append(String text) {
        for (int index = 0; index + 4 <= text.length(); index += 4) {
            X.appendText(text.charAt(index) << 24 | text.charAt(index + 1) << 16 | text.charAt(index + 2) << 8
                    | text.charAt(index + 3));
        }
    }
}
