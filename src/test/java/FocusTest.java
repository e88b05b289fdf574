/** The promises 23 to 28. */
public final class FocusTest {
    private static final Checks C = new Checks("FocusTest");

    public static void main(String[] args) {
        riding();
        places();
        directions();
        cuts();
        cutsOfMoving();
        sampleNumbers();
        parts();
        C.end();
    }

    private static void riding() { // promise 23
        TrackArray full = Scenes.full();
        C.numbers("focusOnVehicle", 4, vehicle -> full.focusOnVehicle(vehicle, 0, 0));
        C.range("offset", -1000, 1000, offset -> full.focusOnVehicle(0, offset, 0));
        C.range("height", 0, 500, height -> full.focusOnVehicle(0, 0, height));
        C.outside("no vehicle and no offset", () -> full.focusOnVehicle(4, 2000, 0));
        TrackArray x = new TrackArray();
        x.setSound(100);
        x.addVehicle(-100, 10, 400);
        x.addVehicle(0, 0, 1000);
        x.addMicrophone(0, 0, 0, 1);
        x.focusOnVehicle(0, 100, 300);
        C.due("500 away", x.sampleNumber(0, 0), 5);
        // 10 farther: 500.09, rounded down to 500
        C.due("almost 500 away", x.sampleNumber(0, 1), 6);
        // 1200 along: 1300
        C.due("1300 away", x.sampleNumber(0, 120), 133);
        C.illegal("offset 1001", () -> x.focusOnVehicle(1, 1001, 0));
        C.illegal("height 501", () -> x.focusOnVehicle(1, 0, 501));
        C.outside("vehicle 2", () -> x.focusOnVehicle(2, 0, 0));
        C.due("after refused ones", x.sampleNumber(0, 120), 133);
        x.focusOnVehicle(1, 0, 0);
        C.due("the other vehicle", x.sampleNumber(0, 120), 130);
        x.focusOnDirection(0);
        C.due("a direction", x.sampleNumber(0, 120), 120);
        x.focusOnVehicle(1, 0, 0);
        C.due("riding again", x.sampleNumber(0, 120), 130);
        TrackArray later = new TrackArray();
        later.addVehicle(0, 10, 100);
        later.focusOnVehicle(0, 0, 0);
        later.addVehicle(4000, 0, 100);
        later.addMicrophone(0, 0, 0, 1);
        later.setSound(100);
        // 2000 along and 100 across: 2002.5
        C.due("vehicles and microphones that come later", later.sampleNumber(0, 200), 221);
    }

    private static void places() { // promise 24
        C.range("x", -20000, 20000, x -> new TrackArray().focusOnPlace(x, 100, 0));
        C.range("y", 100, 5000, y -> new TrackArray().focusOnPlace(0, y, 0));
        C.range("height", 0, 500, height -> new TrackArray().focusOnPlace(0, 100, height));
        TrackArray x = new TrackArray();
        x.setSound(100);
        x.addVehicle(0, 50, 100);
        x.addMicrophone(0, 0, 0, 1);
        C.due("at first 100 away", x.sampleNumber(0, 0), 1);
        first(-5000, 0, 0, 100, 50); // 5000.99 away
        first(5000, 0, 0, 100, 50);
        first(0, -2, 0, 101, 2); // 102 away
        first(0, -1, 0, 101, 1); // 101 away
        first(0, 0, 500, 508, 2); // 509.9 away
        first(0, 0, 500, 509, 1);
        C.due("at first, later", x.sampleNumber(0, 200), 201);
        x.focusOnVehicle(0, 0, 0);
        x.focusOnPlace(300, 400, 0);
        C.due("500 away", x.sampleNumber(0, 0), 5);
        C.due("500 away still", x.sampleNumber(0, 100), 105);
        x.focusOnPlace(0, 400, 300);
        C.due("500 away by the height", x.sampleNumber(0, 0), 5);
        C.illegal("y 99", () -> x.focusOnPlace(0, 99, 0));
        C.illegal("x 20001", () -> x.focusOnPlace(20001, 100, 0));
        C.due("after refused ones", x.sampleNumber(0, 0), 5);
        x.focusOnDirection(0);
        x.focusOnPlace(-20000, 5000, 0);
        // the root of 425000000 is 20615.5
        C.due("far away", x.sampleNumber(0, 0), 207);
    }

    /** The sample number of the place at first, for one microphone. */
    private static void first(int x, int y, int height, int sound, int due) {
        TrackArray array = new TrackArray();
        array.setSound(sound);
        array.addMicrophone(x, y, height, 1);
        C.due("the first focus, from " + x + ", " + y + ", " + height, array.sampleNumber(0, 0), due);
        array.focusOnDirection(1);
        C.due("load()", Checks.loadText(array, "sound " + sound + ";mic " + x + " " + y + " " + height + " 1;"), 2);
        C.due("the first focus after load()", array.sampleNumber(0, 0), due);
    }

    private static void directions() { // promise 25
        C.range("direction", -100, 100, direction -> new TrackArray().focusOnDirection(direction));
        TrackArray x = new TrackArray();
        x.setSound(100);
        x.addMicrophone(300, 0, 0, 1);
        x.addMicrophone(-300, 0, 0, 1);
        x.addMicrophone(0, 0, 500, 1);
        x.focusOnDirection(100);
        C.due("100, from 300", x.sampleNumber(0, 10), 13);
        C.due("100, from -300", x.sampleNumber(1, 10), 7);
        C.due("100, from 0", x.sampleNumber(2, 10), 10);
        x.focusOnDirection(-50);
        C.due("-1.5 rounds down", x.sampleNumber(0, 0), -2);
        C.due("1.5 rounds down", x.sampleNumber(1, 0), 1);
        C.illegal("101", () -> x.focusOnDirection(101));
        C.due("after a refused one", x.sampleNumber(0, 0), -2);
        x.setSound(1000);
        x.focusOnDirection(-1);
        C.due("a little before", x.sampleNumber(0, 0), -1);
        C.due("a little behind", x.sampleNumber(1, 0), 0);
    }

    private static void cuts() { // promises 26 and 28
        TrackArray x = Scenes.echoing();
        C.due("setCut(false)", x.setCut(false), false);
        C.due("setCut(true)", x.setCut(true), false);
        C.due("setCut(true) again", x.setCut(true), true);
        C.due("setCut(false) then", x.setCut(false), true);
        x.addValue(0, -20);
        x.makeRecording();
        x.focusOnVehicle(0, 0, 150);
        // the record from 4 on: 10, -20 + 5, 10 - 10, -20 + 5 ..
        C.due("part(0, 0)", x.part(0, 0), 10);
        C.due("part(0, 1)", x.part(0, 1), -15);
        C.due("part(0, 2)", x.part(0, 2), 0);
        x.setCut(true);
        C.due("cut part(0, 0)", x.part(0, 0), 10);
        C.due("cut part(0, 1)", x.part(0, 1), -20);
        C.due("cut part(0, 2)", x.part(0, 2), 10);
        C.due("cut part(0, 251)", x.part(0, 251), -20);
        C.due("cut part(0, 252), behind the record", x.part(0, 252), 0);
        x.setGround(33);
        // 33 in the hundred of 10 is 3.3, of -18 is -5.94, of 5 is 1.65
        C.due("another ground at 1", x.part(0, 1), -15 - 3);
        C.due("another ground at 2", x.part(0, 2), 0 + 5);
        C.due("another ground at 3", x.part(0, 3), -15 - 1);
        x.setGround(-50);
        C.due("a negative ground at 1", x.part(0, 1), -15 + 5);
        C.due("a negative ground at 2", x.part(0, 2), 0 - 5);
        x.setGround(50);
        x.setSpreading(true);
        // 10 * 1400 / 1500 is 9, half of it 4; -19 * 1400 / 1500 is -17, half of it -8
        C.due("with spreading at 1", x.part(0, 1), -15 - 4);
        C.due("with spreading at 2", x.part(0, 2), 0 + 8);
        x.focusOnDirection(0);
        C.due("a direction is not cut", x.part(0, 5), -15);
        x.focusOnPlace(0, 400, 0);
        // at no height both paths have the same length: nothing earlier is heard
        C.due("no height at 0", x.part(0, 0), x.sample(0, x.sampleNumber(0, 0)));
        C.due("no height at 5", x.part(0, 5), x.sample(0, x.sampleNumber(0, 5)));
    }

    private static void cutsOfMoving() { // promise 28
        for (int first = 0; first <= 255; first += 64) {
            cutParts(approaching(), first, false);
            TrackArray spread = approaching();
            spread.setSpreading(true);
            cutParts(spread, first, true);
        }
    }

    private static TrackArray approaching() {
        TrackArray x = new TrackArray();
        x.setSound(100);
        x.setGround(80);
        x.setCut(true);
        x.addVehicle(-2000, 20, 150);
        for (int k = 0; k < 6; k++) {
            x.addSource(0, 0, 0, 10, 98);
            x.addValue(k, -99);
            x.addValue(k, 97);
        }
        x.addMicrophone(0, 0, 400, 1);
        x.setNoise(5, 99);
        x.makeRecording();
        x.focusOnVehicle(0, 0, 500);
        return x;
    }

    private static void cutParts(TrackArray x, int first, boolean spreading) {
        for (int t = first; t < first + 64; t++) {
            int n = x.sampleNumber(0, t);
            int u = NOTHING;
            for (int each = 0; each <= 255; each++) {
                if (100 * each + length(each, 900) <= 100 * n) {
                    u = each;
                }
            }
            int due = n > 255 ? 0 : x.sample(0, n);
            if (n <= 255 && u != NOTHING && u < t) {
                int part = x.part(0, u);
                int spread = spreading ? part * (1000 + length(u, 100)) / (1000 + length(u, 900)) : part;
                due -= spread * 80 / 100;
            }
            C.due("part(0, " + t + ")", x.part(0, t), due);
        }
    }

    private static int length(int time, int up) {
        int along = -2000 + 20 * time;
        return (int) Math.sqrt(along * along + 150 * 150 + up * up);
    }

    private static final int NOTHING = -1;

    private static void sampleNumbers() { // promise 27
        TrackArray full = Scenes.full();
        C.numbers("sampleNumber", 8, microphone -> full.sampleNumber(microphone, 0));
        C.range("sampleNumber", 0, 255, time -> full.sampleNumber(0, time));
        C.outside("no microphone at 256", () -> full.sampleNumber(8, 256));
        TrackArray x = Scenes.plain();
        C.due("exactly a sample", x.sampleNumber(0, 0), 1);
        x.focusOnPlace(0, 101, 0);
        C.due("a centimeter more", x.sampleNumber(0, 0), 2);
        x.focusOnPlace(0, 100, 0);
        C.due("behind the record", x.sampleNumber(1, 255), 257);
        x.setSound(101);
        C.due("a part of a sample", x.sampleNumber(0, 0), 1);
        C.due("two almost", x.sampleNumber(1, 0), 2);
        x.setSound(200);
        C.due("half a sample", x.sampleNumber(0, 10), 11);
        C.due("one sample", x.sampleNumber(1, 10), 11);
        x.focusOnDirection(-100);
        x.addMicrophone(5000, 0, 0, 1);
        x.setSound(100);
        C.due("far before", x.sampleNumber(2, 0), -50);
        x.focusOnDirection(100);
        C.due("far behind", x.sampleNumber(2, 255), 305);
    }

    private static void parts() { // promise 28
        TrackArray full = Scenes.full();
        C.numbers("part", 8, microphone -> full.part(microphone, 0));
        C.range("part", 0, 255, time -> full.part(0, time));
        C.outside("no microphone at 256", () -> full.part(8, 256));
        TrackArray x = Scenes.recorded();
        C.due("part(0, 0)", x.part(0, 0), 10);
        C.due("part(0, 254), the last sample", x.part(0, 254), 10);
        C.due("part(0, 255), behind it", x.part(0, 255), 0);
        C.due("part(1, 1), without its weight", x.part(1, 1), -6);
        C.due("part(1, 254), behind the record", x.part(1, 254), 0);
        x.focusOnDirection(100);
        C.due("the sample 0", x.part(0, 0), 0);
        C.due("the sample 1", x.part(0, 1), 10);
        C.due("the sample 255", x.part(1, 255), -6);
        TrackArray y = new TrackArray();
        y.setSound(100);
        y.setNoise(3, 90);
        y.addMicrophone(300, 0, 0, 1);
        y.makeRecording();
        y.focusOnDirection(-100);
        C.due("before the record", y.part(0, 2), 0);
        C.due("its first sample", y.part(0, 3), y.sample(0, 0));
        C.due("its sample 252", y.part(0, 255), y.sample(0, 252));
        y.focusOnDirection(100);
        C.due("its last sample", y.part(0, 252), y.sample(0, 255));
        C.due("behind the record", y.part(0, 253), 0);
    }
}
