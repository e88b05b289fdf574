import java.lang.management.ManagementFactory;

/** How much the dearest calls make, for all calls of one run live in one room. */
public final class RoomTest {
    private static final Checks C = new Checks("RoomTest");

    public static void main(String[] args) {
        dearest(new TrackArray(), 8);
        TrackArray used = new TrackArray();
        long before = made();
        dearest(used, 50);
        long bytes = made() - before;
        C.due("50 turns of the dearest calls make " + bytes + " bytes, more than 60000", bytes > 60000, false);
        before = made();
        TrackArray x = new TrackArray();
        bytes = made() - before;
        C.due("a new array makes " + bytes + " bytes, more than 100000", bytes > 100000, false);
        C.due("it is used", x.count(0), 0);
        C.end();
    }

    private static long made() {
        com.sun.management.ThreadMXBean bean = (com.sun.management.ThreadMXBean) ManagementFactory.getThreadMXBean();
        return bean.getThreadAllocatedBytes(Thread.currentThread().getId());
    }

    private static void dearest(TrackArray x, int turns) {
        append(x, "vehicle 0 50 100;source 0 0 500 1 1 2 3;sound 100;ground 90;spreading; noise 5; ");
        append(x, "mic 0 0 1 1;mic 9 0 9 1;mic 0 0 0 1;mic 9 0 0 1;");
        append(x, "mic 0 0 0 1;mic 9 0 9 1;mic 0 0 0 1;mic 9 0 9 1;");
        C.due("load()", x.load(), 14);
        x.makeRecording();
        x.setCut(true);
        x.focusOnVehicle(0, 0, 500);
        for (int turn = 0; turn < turns; turn++) {
            x.scan(100, 20, 0, 255);
            x.bestDirection(1, 0, 255);
            x.bestPeriod(64, 0, 255);
            x.bestLag(0, 1, 255);
            x.loudestWindow(0, 128);
            x.crest(0, 255);
            x.makeRecording();
            x.save(turn % 2);
            x.restore(turn % 2);
        }
    }

    private static void append(TrackArray x, String text) {
        for (int index = 0; index + 4 <= text.length(); index += 4) {
            x.appendText(text.charAt(index) << 24 | text.charAt(index + 1) << 16 | text.charAt(index + 2) << 8
                    | text.charAt(index + 3));
        }
    }
}
