/** The promises 16 to 22. */
public final class RecordsTest {
    private static final Checks C = new Checks("RecordsTest");

    public static void main(String[] args) {
        recordings();
        reflections();
        spreading();
        noise();
        staying();
        samples();
        measures();
        loudestMicrophone();
        loudestWindow();
        correlations();
        bestLags();
        C.end();
    }

    private static void recordings() { // promise 16
        TrackArray none = new TrackArray();
        C.due("makeRecording() without microphones", none.makeRecording(), 1);
        C.due("makeRecording() again", none.makeRecording(), 2);
        TrackArray x = Scenes.plain();
        x.addVehicle(0, 0, 200);
        x.addSource(1, 0, 0, 1, 7);
        C.due("makeRecording()", x.makeRecording(), 1);
        C.due("nothing yet", x.sample(0, 0), 0);
        C.due("the first source", x.sample(0, 1), 10);
        C.due("both sources", x.sample(0, 2), -6 + 7);
        C.due("both sources at last", x.sample(0, 255), 10 + 7);
        C.due("the other microphone at 2", x.sample(1, 2), 10);
        C.due("the other microphone at 3", x.sample(1, 3), -6 + 7);
        C.due("makeRecording() again", x.makeRecording(), 2);
        C.due("the same again", x.sample(0, 2), 1);
    }

    private static void reflections() { // promise 16
        TrackArray x = Scenes.echoing();
        x.makeRecording();
        C.due("before", x.sample(0, 3), 0);
        C.due("direct", x.sample(0, 4), 10);
        C.due("with the reflection", x.sample(0, 5), 15);
        x.setGround(-25);
        x.addValue(0, 50);
        x.makeRecording();
        C.due("direct then", x.sample(0, 4), 10);
        TrackArray strong = new TrackArray();
        strong.setSound(100);
        strong.setGround(-90);
        strong.addVehicle(0, 0, 100);
        strong.addSource(0, 0, 0, 10, 99);
        strong.addMicrophone(0, 0, 0, 1);
        strong.makeRecording();
        C.due("990 and -90 in the hundred", strong.sample(0, 1), 990 - 891);
        // -25 of 10 in the hundred is -2.5
        C.due("a negative reflection toward 0", x.sample(0, 5), 50 - 2);
        C.due("a negative reflection", x.sample(0, 6), 10 - 12);
    }

    private static void spreading() { // promise 16
        TrackArray x = Scenes.echoing();
        x.addValue(0, -10);
        x.setSpreading(true);
        x.setGround(90);
        x.makeRecording();
        // 10000 / 1400 is 7; reflected 10000 / 1500 is 6, 90 in the hundred of it 5
        C.due("direct", x.sample(0, 4), 7);
        C.due("with the reflection", x.sample(0, 5), -7 + 5);
        C.due("later", x.sample(0, 6), 7 - 5);
        // 990000 / 1001 is 989.01, 990000 / 1002 is 988.02
        TrackArray near = new TrackArray();
        near.setSound(100);
        near.setSpreading(true);
        near.addVehicle(0, 0, 100);
        near.addMicrophone(0, 99, 0, 1);
        near.addMicrophone(0, 98, 0, 1);
        near.addSource(0, 0, 0, 10, 99);
        near.makeRecording();
        C.due("990 over 1", near.sample(0, 1), 989);
        C.due("990 over 2", near.sample(1, 1), 988);
        // the vehicle is 300 nearer at the time 10: the distance of the emission counts
        TrackArray y = new TrackArray();
        y.setSound(100);
        y.addVehicle(400, -30, 300);
        y.addSource(0, 0, 0, 10, 99);
        y.addMicrophone(0, 0, 0, 1);
        y.setSpreading(true);
        y.makeRecording();
        C.due("990 over 500", y.sample(0, 5), 660);
        // at 13 the one from 9 is heard, over 326; at 14 the one from 10, over 316
        C.due("990 over 326", y.sample(0, 13), 990000 / 1326);
        C.due("990 over 316", y.sample(0, 14), 990000 / 1316);
    }

    private static void noise() { // promise 16
        int[] due = Scenes.noise(12345, 4, 513);
        TrackArray x = twoNoises();
        TrackArray same = twoNoises();
        for (int n = 0; n <= 255; n++) {
            C.due("noise " + n + " of 0", x.sample(0, n), due[n]);
            C.due("noise " + n + " of 1", same.sample(1, n), due[256 + n]);
        }
        x.makeRecording();
        C.due("noise goes on", x.sample(0, 0), due[512]);
        x.setNoise(12345, 0);
        x.makeRecording();
        C.due("no noise", x.measureRecord(1, 0, 0, 255), 0);
        TrackArray y = Scenes.plain();
        y.setNoise(1, 99);
        y.makeRecording();
        C.due("noise and sound", y.sample(0, 1), 10 + Scenes.noisy(1, 99).sample(0, 1));
        // without noise nothing is drawn
        TrackArray z = new TrackArray();
        z.addMicrophone(0, 0, 0, 1);
        z.makeRecording();
        TrackArray once = Scenes.noisy(1, 9);
        z.save(0);
        C.due("a silent recording", z.measureRecord(0, 1, 0, 255), 0);
        Checks.loadText(z, "noise 9; mic 0 0 0 1;");
        z.makeRecording();
        C.due("the state is 1 at first", z.sample(0, 77), once.sample(0, 77));
    }

    private static TrackArray twoNoises() {
        TrackArray x = new TrackArray();
        x.addMicrophone(0, 0, 0, 1);
        x.addMicrophone(0, 0, 0, 1);
        x.setNoise(12345, 4);
        x.makeRecording();
        return x;
    }

    private static void staying() { // promise 16
        TrackArray x = Scenes.recorded();
        x.setSound(1000);
        x.setGround(90);
        x.setSpreading(true);
        x.setNoise(5, 50);
        x.addValue(0, 99);
        x.addSource(0, 0, 0, 10, 99);
        x.setWeight(0, 9);
        x.addMicrophone(0, 0, 0, 1);
        C.due("a record stays", x.sample(0, 1), 10);
        C.due("a record stays at 2", x.sample(0, 2), -6);
        C.due("the other record stays", x.sample(1, 3), -6);
        C.due("the new record is 0", x.measureRecord(2, 1, 0, 255), 0);
    }

    private static void samples() { // promise 17
        TrackArray full = Scenes.full();
        C.numbers("sample", 8, microphone -> full.sample(microphone, 0));
        C.range("sample", 0, 255, sample -> full.sample(0, sample));
        C.outside("sample(8, 256)", () -> full.sample(8, 256));
        TrackArray x = Scenes.plain();
        C.due("before any recording", x.sample(0, 1), 0);
        x.makeRecording();
        C.due("sample(0, 255)", x.sample(0, 255), 10);
        C.due("sample(1, 255)", x.sample(1, 255), -6);
    }

    private static void measures() { // promise 18
        TrackArray full = Scenes.full();
        C.numbers("measureRecord", 8, microphone -> full.measureRecord(microphone, 0, 0, 255));
        C.range("measure", 0, 4, measure -> full.measureRecord(0, measure, 0, 255));
        C.window("measureRecord", (first, last) -> full.measureRecord(0, 0, first, last));
        C.outside("no microphone and no measure", () -> full.measureRecord(8, 5, 1, 0));
        TrackArray x = Scenes.recorded();
        C.due("energy", x.measureRecord(0, 0, 0, 3), 100 + 36 + 100);
        C.due("energy of one", x.measureRecord(0, 0, 2, 2), 36);
        C.due("peak", x.measureRecord(0, 1, 0, 255), 10);
        C.due("peak of a negative one", x.measureRecord(0, 1, 2, 2), 6);
        C.due("level of 0", x.measureRecord(0, 2, 0, 0), 0);
        C.due("level of 36", x.measureRecord(0, 2, 2, 2), 6);
        C.due("level of 100", x.measureRecord(0, 2, 1, 1), 7);
        C.due("level of 136", x.measureRecord(0, 2, 1, 2), 8);
        C.due("sum", x.measureRecord(0, 3, 0, 3), 14);
        C.due("sum of a negative one", x.measureRecord(0, 3, 2, 2), -6);
        C.due("crossings", x.measureRecord(0, 4, 0, 3), 3);
        C.due("crossings without the first", x.measureRecord(0, 4, 1, 3), 2);
        C.due("crossings of one", x.measureRecord(0, 4, 2, 2), 0);
        C.due("crossings of all", x.measureRecord(0, 4, 0, 255), 255);
        levels();
        TrackArray y = new TrackArray();
        y.setSound(100);
        y.addVehicle(0, 0, 100);
        y.addSource(0, 0, 0, 1, 5);
        for (int value : new int[] {9, 0, 0, -4, -7, 3}) {
            y.addValue(0, value);
        }
        y.addMicrophone(0, 0, 0, 1);
        y.makeRecording();
        // 0 5 9 0 0 -4 -7 3 5
        C.due("crossings by way of 0", y.measureRecord(0, 4, 0, 8), 4);
        C.due("crossings in a window", y.measureRecord(0, 4, 3, 7), 2);
        C.due("peak in a window", y.measureRecord(0, 1, 4, 8), 7);
    }

    /** The energies 1, 4, 16, 64: a power of 2 needs a digit more than what is below it. */
    private static void levels() {
        int[] values = {1, 2, 4, 8, 9};
        int[] digits = {1, 3, 5, 7, 7};
        for (int k = 0; k < values.length; k++) {
            TrackArray x = new TrackArray();
            x.setSound(100);
            x.addVehicle(0, 0, 100);
            x.addSource(0, 0, 0, 1, values[k]);
            x.addMicrophone(0, 0, 0, 1);
            x.makeRecording();
            C.due("level of " + values[k], x.measureRecord(0, 2, 1, 1), digits[k]);
        }
    }

    private static void loudestMicrophone() { // promise 19
        TrackArray x = Scenes.recorded();
        C.window("loudestMicrophone", x::loudestMicrophone);
        C.due("loudest", x.loudestMicrophone(0, 255), 0);
        C.due("loudest of equal ones", x.loudestMicrophone(0, 0), 0);
        C.due("loudest at 2", x.loudestMicrophone(2, 2), 1);
        x.setWeight(0, 0);
        C.due("loudest whatever the weight", x.loudestMicrophone(0, 255), 0);
        C.due("loudest of none", new TrackArray().loudestMicrophone(0, 255), -1);
        C.illegal("none in a bad window", () -> new TrackArray().loudestMicrophone(1, 0));
    }

    private static void loudestWindow() { // promise 20
        TrackArray full = Scenes.full();
        C.numbers("loudestWindow", 8, microphone -> full.loudestWindow(microphone, 1));
        C.range("width", 1, 256, width -> full.loudestWindow(0, width));
        C.outside("no microphone and no width", () -> full.loudestWindow(8, 0));
        C.due("of silence", full.loudestWindow(0, 10), 0);
        TrackArray x = Scenes.recorded();
        C.due("width 1", x.loudestWindow(0, 1), 1);
        C.due("width 2", x.loudestWindow(0, 2), 1);
        C.due("width 255", x.loudestWindow(0, 255), 1);
        C.due("width 256", x.loudestWindow(0, 256), 0);
        C.due("width 3 of the other", x.loudestWindow(1, 3), 2);
        TrackArray y = new TrackArray();
        y.setSound(100);
        y.addVehicle(-4500, 30, 100);
        y.addSource(0, 0, 0, 10, 99);
        y.addMicrophone(0, 0, 0, 1);
        y.setSpreading(true);
        y.makeRecording();
        // it passes at 150, at a distance of 100, and is heard a sample later
        C.due("passing", y.loudestWindow(0, 1), 151);
        TrackArray late = new TrackArray();
        late.setSound(100);
        late.addVehicle(0, 0, 5000);
        late.addMicrophone(0, 0, 0, 1);
        late.addSource(0, 0, 0, 1, 1);
        late.makeRecording();
        C.due("what begins late", late.loudestWindow(0, 206), 50);
        C.due("a longer window", late.loudestWindow(0, 207), 49);
    }

    private static void correlations() { // promise 21
        TrackArray full = Scenes.full();
        C.numbers("correlation of microphone", 8, microphone -> full.correlation(microphone, 0, 0));
        C.numbers("correlation of other", 8, microphone -> full.correlation(0, microphone, 0));
        C.range("lag", -255, 255, lag -> full.correlation(0, 0, lag));
        C.outside("no microphone and no lag", () -> full.correlation(8, 0, 256));
        C.outside("no other and no lag", () -> full.correlation(0, -1, 256));
        TrackArray x = Scenes.recorded();
        // the other one is a sample later: 127 times each of 100 and 36
        C.due("lag 1", x.correlation(0, 1, 1), 127 * 136);
        C.due("lag 0", x.correlation(0, 1, 0), 254 * -60);
        C.due("lag -1 from the other", x.correlation(1, 0, -1), 127 * 136);
        C.due("lag 1 from the other", x.correlation(1, 0, 1), 126 * 136 + 100);
        C.due("with itself", x.correlation(0, 0, 0), 128 * 100 + 127 * 36);
        // sample 1 of the other is 0, sample 255 of this one is 10
        C.due("lag -254", x.correlation(0, 1, -254), 0);
        C.due("lag -253", x.correlation(0, 1, -253), 10 * 10);
        C.due("lag 254", x.correlation(0, 1, 254), 10 * -6);
        C.due("lag 255", x.correlation(0, 1, 255), 0);
        TrackArray y = Scenes.noisy(31, 99);
        C.due("both ends", y.correlation(0, 0, 255), (long) y.sample(0, 0) * y.sample(0, 255));
        C.due("both ends turned", y.correlation(0, 0, -255), (long) y.sample(0, 0) * y.sample(0, 255));
        long sum = 0;
        for (int n : Scenes.noise(31, 99, 256)) {
            sum += (long) n * n;
        }
        C.due("all of it", y.correlation(0, 0, 0), sum);
    }

    private static void bestLags() { // promise 22
        TrackArray full = Scenes.full();
        C.numbers("bestLag of microphone", 8, microphone -> full.bestLag(microphone, 0, 0));
        C.numbers("bestLag of other", 8, microphone -> full.bestLag(0, microphone, 0));
        C.range("greatest", 0, 255, greatest -> full.bestLag(0, 0, greatest));
        C.outside("no microphone and no lag", () -> full.bestLag(8, 0, 256));
        C.outside("no other and no lag", () -> full.bestLag(0, 8, -1));
        C.due("of silence", full.bestLag(0, 1, 255), 0);
        TrackArray x = Scenes.recorded();
        C.due("later", x.bestLag(0, 1, 3), 1);
        C.due("earlier", x.bestLag(1, 0, 3), -1);
        C.due("no lag", x.bestLag(0, 1, 0), 0);
        C.due("just far enough, later", x.bestLag(0, 1, 1), 1);
        C.due("just far enough, earlier", x.bestLag(1, 0, 1), -1);
        TrackArray far = new TrackArray();
        far.setSound(100);
        far.addVehicle(0, 0, 100);
        far.addSource(0, 0, 0, 1, 99);
        for (int k = 1; k < 16; k++) {
            far.addValue(0, 0);
        }
        far.addMicrophone(0, 0, 0, 1);
        far.addMicrophone(283, 0, 0, 1);
        far.makeRecording();
        C.due("not far enough", far.bestLag(0, 1, 1), 0);
        C.due("two later", far.bestLag(0, 1, 2), 2);
        C.due("two earlier", far.bestLag(1, 0, 13), -2);
        C.due("14 later is less, for there are fewer", far.bestLag(1, 0, 255), -2);
        C.due("with itself", x.bestLag(0, 0, 255), 0);
        // 1, 0, 1, 0 .. from 1 on and from 2 on: the lags -1 and 1 find 127 products each
        TrackArray y = new TrackArray();
        y.setSound(100);
        y.addVehicle(0, 0, 100);
        y.addSource(0, 0, 0, 1, 1);
        y.addValue(0, 0);
        y.addMicrophone(0, 0, 0, 1);
        y.addMicrophone(0, -100, 0, 1);
        y.makeRecording();
        C.due("one as good", y.correlation(0, 1, -1), 127);
        C.due("another as good", y.correlation(0, 1, 1), 127);
        C.due("equally good ones, the negative first", y.bestLag(0, 1, 1), -1);
        C.due("equally good ones among more", y.bestLag(0, 1, 255), -1);
        C.due("equally good ones from the other", y.bestLag(1, 0, 2), -1);
    }
}
