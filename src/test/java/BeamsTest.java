/** The promises 29 to 38. */
public final class BeamsTest {
    private static final Checks C = new Checks("BeamsTest");

    public static void main(String[] args) {
        beams();
        measures();
        powers();
        bestPeriods();
        beside();
        scans();
        bestDirections();
        spectra();
        meanPowers();
        crests();
        C.end();
    }

    /** The beam of Scenes.recorded() from 0 on: 30, -18, 30, -18 .. up to 253, then 10, 0. */
    private static void beams() { // promise 29
        TrackArray x = Scenes.recorded();
        C.range("beam", 0, 255, x::beam);
        C.due("beam(0)", x.beam(0), 30);
        C.due("beam(253)", x.beam(253), -18);
        C.due("beam(254)", x.beam(254), 10);
        C.due("beam(255)", x.beam(255), 0);
        x.setWeight(0, 9);
        x.setWeight(1, 0);
        C.due("beam(1) of other weights", x.beam(1), -54);
        C.due("beam of nothing", new TrackArray().beam(255), 0);
        exactlyAtTheFocus();
        TrackArray y = Scenes.echoing();
        y.addMicrophone(100, 0, 450, 3);
        y.setSpreading(true);
        y.setCut(true);
        y.makeRecording();
        y.focusOnVehicle(0, 0, 150);
        for (int t = 0; t <= 255; t += 5) {
            C.due("beam(" + t + ") of cut parts", y.beam(t), y.part(0, t) + 3 * y.part(1, t));
        }
    }

    /** All measures are of the beam at the focus, and of no place beside it. */
    private static void exactlyAtTheFocus() {
        TrackArray x = new TrackArray();
        x.setSound(100);
        x.addMicrophone(5000, 0, 0, 1);
        x.setNoise(11, 99);
        x.makeRecording();
        // 5000 * -2 / 10000 is -1; of -1 it is -0.5, which rounds down to -1 too, so that only -1 and -2 are alike
        x.focusOnDirection(-2);
        C.due("the beam", x.beam(50), x.sample(0, 49));
        x.focusOnDirection(-1);
        int value = x.sample(0, 49);
        C.due("the beam at -1", x.beam(50), value);
        C.due("its sum", x.measureBeam(3, 50, 50), value);
        C.due("its power", x.periodPower(1, 50, 50), (long) value * value);
        C.dueDouble("its mean power", x.meanPower(50, 50), (double) value * value);
        int first = Math.abs(x.sample(0, 49));
        int second = Math.abs(x.sample(0, 50));
        double mean = ((double) first * first + (double) second * second) / 2.0;
        double peak = Math.max(first, second);
        C.dueDouble("its crest", x.crest(50, 51), (float) (peak * peak / mean));
        for (int at = 50; at < 60; at++) {
            long sum = x.sample(0, at - 1) + x.sample(0, at);
            long squares = x.measureRecord(0, 0, at - 1, at);
            C.due("its best period at " + at, x.bestPeriod(2, at, at + 1), sum * sum / 2 < squares ? 2 : 1);
        }
    }

    private static void measures() { // promise 30
        TrackArray x = Scenes.recorded();
        C.range("measure", 0, 4, measure -> x.measureBeam(measure, 0, 255));
        C.window("measureBeam", (first, last) -> x.measureBeam(0, first, last));
        C.due("energy", x.measureBeam(0, 0, 255), 127 * (900 + 324) + 100);
        C.due("peak", x.measureBeam(1, 1, 1), 18);
        C.due("level of 2448", x.measureBeam(2, 0, 3), 12);
        C.due("level of 0", x.measureBeam(2, 255, 255), 0);
        C.due("sum", x.measureBeam(3, 0, 255), 127 * 12 + 10);
        C.due("crossings", x.measureBeam(4, 0, 255), 255);
        C.due("crossings of a window", x.measureBeam(4, 253, 255), 2);
        TrackArray y = strong();
        C.due("the greatest beam", y.beam(10), 8 * 9 * 5940);
        C.due("its energy", y.measureBeam(0, 10, 109), 100L * 427680 * 427680);
        C.due("its level", y.measureBeam(2, 10, 109), 45);
    }

    /** Six strong sources at 100, beside eight heavy microphones. */
    private static TrackArray strong() {
        TrackArray x = new TrackArray();
        x.setSound(100);
        x.addVehicle(0, 0, 100);
        for (int k = 0; k < 6; k++) {
            x.addSource(0, 0, 0, 10, -99);
        }
        for (int k = 0; k < 8; k++) {
            x.addMicrophone(0, 0, 0, 9);
        }
        x.makeRecording();
        TrackArray y = new TrackArray();
        y.setSound(100);
        y.addVehicle(0, 0, 100);
        for (int k = 0; k < 6; k++) {
            y.addSource(0, 0, 0, 10, 99);
        }
        for (int k = 0; k < 8; k++) {
            y.addMicrophone(0, 0, 0, 9);
        }
        y.makeRecording();
        C.due("the least beam", x.beam(10), -8 * 9 * 5940);
        return y;
    }

    private static void powers() { // promise 31
        TrackArray x = Scenes.recorded();
        C.range("period", 1, 64, period -> x.periodPower(period, 0, 255));
        C.window("periodPower", (first, last) -> x.periodPower(1, first, last));
        C.due("period 1", x.periodPower(1, 0, 3), 24 * 24);
        C.due("period 2", x.periodPower(2, 0, 3), 60 * 60 + 36 * 36);
        C.due("period 3", x.periodPower(3, 0, 3), 12 * 12 + 18 * 18 + 30 * 30);
        C.due("period 3 from 1", x.periodPower(3, 1, 4), 12 * 12 + 30 * 30 + 18 * 18);
        C.due("period 64 in 4", x.periodPower(64, 0, 3), 2448);
        C.due("period 2 in one", x.periodPower(2, 1, 1), 324);
        C.due("a great power", strong().periodPower(1, 0, 253), 254L * 254 * 427680 * 427680);
    }

    private static void bestPeriods() { // promise 32
        TrackArray x = Scenes.recorded();
        C.range("greatest", 1, 64, greatest -> x.bestPeriod(greatest, 0, 255));
        C.window("bestPeriod", (first, last) -> x.bestPeriod(1, first, last));
        C.due("up to 1", x.bestPeriod(1, 0, 199), 1);
        C.due("up to 3", x.bestPeriod(3, 0, 199), 2);
        C.due("as strong with 4", x.bestPeriod(5, 0, 199), 2);
        C.due("of silence", x.bestPeriod(64, 255, 255), 1);
        // a single value: the strength grows with the period
        C.due("of one value", x.bestPeriod(64, 0, 0), 64);
        TrackArray y = new TrackArray();
        y.setSound(100);
        y.addVehicle(0, 0, 100);
        y.addSource(0, 0, 0, 1, 7);
        y.addValue(0, -2);
        y.addValue(0, 1);
        y.addValue(0, 8);
        y.addValue(0, -6);
        y.addMicrophone(0, 0, 0, 1);
        y.makeRecording();
        C.due("of a pattern of 5, as strong with 10", y.bestPeriod(12, 0, 199), 5);
        // 7, -2, 1, 8: the period 3 has 15 * 15 + 4 + 1 = 230, times 3 / 4; the period 4 has 118
        C.due("of 4 values", y.bestPeriod(4, 0, 3), 3);
        // 5 values: 64 / 5 for 1, 40 * 2 / 5 for 2, 290 * 3 / 5 for 3, 154 for 5
        C.due("of 5 values up to 2", y.bestPeriod(2, 0, 4), 2);
        C.due("of 5 values up to 5", y.bestPeriod(5, 0, 4), 3);
    }

    private static void beside() { // promise 33
        TrackArray x = Scenes.recorded();
        C.range("by", -2000, 2000, by -> x.energyBeside(by, 0, 255));
        C.window("energyBeside", (first, last) -> x.energyBeside(0, first, last));
        C.due("at the focus", x.energyBeside(0, 0, 3), 2448);
        sameBeside(100);
        sameBeside(-370);
        TrackArray far = Scenes.plain();
        far.setNoise(8, 50);
        far.makeRecording();
        far.focusOnPlace(20000, 100, 0);
        // 22000 away from both: 220 samples
        C.due("beyond the range", far.energyBeside(2000, 35, 35),
                square(far.sample(0, 255) + 2 * far.sample(1, 255)));
        C.due("behind the record", far.energyBeside(2000, 36, 36), 0);
        far.focusOnDirection(100);
        far.addMicrophone(-100, 0, 0, 1);
        far.setWeight(0, 0);
        far.setWeight(1, 0);
        far.makeRecording();
        C.due("a direction of 2100", far.energyBeside(2000, 21, 21), square(far.sample(2, 0)));
        C.due("a direction of 2100, before", far.energyBeside(2000, 20, 20), 0);
        C.due("a direction of -1900", far.energyBeside(-2000, 10, 10), square(far.sample(2, 29)));
        C.due("the focus stays", far.part(2, 1), far.sample(2, 0));
    }

    private static long square(long value) {
        return value * value;
    }

    private static void sameBeside(int by) {
        TrackArray x = Scenes.echoing();
        x.addVehicle(-300, 5, 100);
        x.addSource(1, 10, 80, 2, 33);
        x.addMicrophone(90, -100, 20, 4);
        x.setNoise(4, 9);
        x.makeRecording();
        x.setCut(true);
        x.focusOnVehicle(1, 40, 90);
        long riding = x.energyBeside(by, 3, 200);
        long kept = x.measureBeam(0, 3, 200);
        x.focusOnVehicle(1, 40 + by, 90);
        C.due("riding beside by " + by, riding, x.measureBeam(0, 3, 200));
        x.focusOnVehicle(1, 40, 90);
        C.due("the focus stays", x.measureBeam(0, 3, 200), kept);
        x.focusOnPlace(-20, 400, 90);
        long fixed = x.energyBeside(by, 3, 200);
        x.focusOnPlace(-20 + by, 400, 90);
        C.due("fixed beside by " + by, fixed, x.measureBeam(0, 3, 200));
        int turn = by / 10;
        x.focusOnDirection(-20);
        long looking = x.energyBeside(turn, 3, 200);
        x.focusOnDirection(-20 + turn);
        C.due("looking beside by " + turn, looking, x.measureBeam(0, 3, 200));
    }

    private static void scans() { // promise 34
        TrackArray x = Scenes.recorded();
        C.range("step", 1, 100, step -> x.scan(step, 1, 0, 10));
        C.range("steps", 0, 20, steps -> x.scan(1, steps, 0, 10));
        C.window("scan", (first, last) -> x.scan(1, 0, first, last));
        C.due("at the focus", x.scan(100, 20, 0, 200), 0);
        C.due("no steps", x.scan(100, 0, 0, 200), 0);
        C.due("of silence", new TrackArray().scan(1, 20, 0, 255), 0);
        TrackArray y = Scenes.plain();
        y.addMicrophone(300, 0, 0, 1);
        y.addMicrophone(-300, 0, 0, 1);
        y.makeRecording();
        y.focusOnPlace(-250, 100, 0);
        C.due("to the right", y.scan(50, 6, 0, 200), 5);
        y.focusOnPlace(250, 100, 0);
        C.due("to the left", y.scan(50, 6, 0, 200), -5);
        C.due("to the left, not far enough", y.scan(1, 3, 0, 200), best(y, 1, 3, 0));
        y.focusOnDirection(60);
        C.due("directions", y.scan(7, 20, 20, 200), best(y, 7, 20, 20));
        // a beam that is even about the focus: -1 and 1 are equally good, and better than 0
        TrackArray even = new TrackArray();
        even.setSound(100);
        even.addVehicle(-300, 0, 100);
        even.addVehicle(300, 0, 100);
        even.addSource(0, 0, 0, 1, 9);
        even.addValue(0, -9);
        even.addValue(0, 5);
        even.addSource(1, 0, 0, 1, 9);
        even.addValue(1, -9);
        even.addValue(1, 5);
        even.addMicrophone(-300, 0, 0, 1);
        even.addMicrophone(300, 0, 0, 1);
        even.makeRecording();
        C.due("even", even.energyBeside(-300, 9, 200), even.energyBeside(300, 9, 200));
        C.due("equally good ones, the negative first", even.scan(100, 4, 0, 200), -bestAbove(even));
    }

    private static int bestAbove(TrackArray x) {
        int best = 0;
        for (int k = 1; k <= 4; k++) {
            if (x.energyBeside(100 * k, 0, 200) > x.energyBeside(100 * best, 0, 200)) {
                best = k;
            }
        }
        C.due("beside the focus there is more", best > 0, true);
        return best;
    }

    private static int best(TrackArray x, int step, int steps, int first) {
        int best = 0;
        for (int k = 1; k <= steps; k++) {
            best = x.energyBeside(-k * step, first, 200) > x.energyBeside(best * step, first, 200) ? -k : best;
            best = x.energyBeside(k * step, first, 200) > x.energyBeside(best * step, first, 200) ? k : best;
        }
        return best;
    }

    private static void bestDirections() { // promise 35
        TrackArray x = Scenes.recorded();
        C.range("step", 1, 100, step -> x.bestDirection(step, 0, 255));
        C.window("bestDirection", (first, last) -> x.bestDirection(100, first, last));
        C.due("of silence", new TrackArray().bestDirection(1, 0, 255), -100);
        C.due("all alike", x.bestDirection(1, 0, 255), -100);
        TrackArray y = fromTheLeft();
        long before = y.measureBeam(0, 0, 255);
        C.due("from the left", y.bestDirection(1, 100, 200), 100);
        C.due("from the left in steps of 100", y.bestDirection(100, 100, 200), 100);
        C.due("the focus stays", y.measureBeam(0, 0, 255), before);
        for (int step : new int[] {1, 3, 7, 33, 99, 100}) {
            TrackArray z = fromTheLeft();
            C.due("steps of " + step, z.bestDirection(step, 90, 180), bestOf(z, step));
        }
    }

    /** Far away to the left: sound comes to the microphones at -600, 0 and 600 six samples apart. */
    private static TrackArray fromTheLeft() {
        TrackArray y = new TrackArray();
        y.setSound(100);
        y.addVehicle(-8000, 0, 100);
        y.addSource(0, 0, 0, 1, 9);
        for (int value : new int[] {-8, 7, 1, -3, 2, -9, 4, 4, -6, 0, 5, -1, 8, 3, -7}) {
            y.addValue(0, value);
        }
        for (int k = -1; k <= 1; k++) {
            y.addMicrophone(600 * k, 0, 0, 1);
        }
        y.makeRecording();
        y.focusOnPlace(0, 100, 0);
        return y;
    }

    private static int bestOf(TrackArray x, int step) {
        int best = -100;
        long most = -1;
        for (int direction = -100; direction <= 100; direction += step) {
            x.focusOnDirection(direction);
            long energy = x.measureBeam(0, 90, 180);
            if (energy > most) {
                most = energy;
                best = direction;
            }
        }
        return best;
    }

    private static void spectra() { // promise 36
        TrackArray x = Scenes.recorded();
        C.range("direction", -100, 100, direction -> x.spectrum(direction, 1, 0, 255));
        C.range("period", 1, 64, period -> x.spectrum(0, period, 0, 255));
        C.window("spectrum", (first, last) -> x.spectrum(0, 1, first, last));
        // the samples 0, 10, -6, 10 and 0, 0, 20, -12: 0, 10, 14, -2
        C.due("period 1", x.spectrum(0, 1, 0, 3), 22 * 22 / 4);
        C.due("period 2", x.spectrum(0, 2, 0, 3), (14 * 14 + 8 * 8) * 2 / 4);
        C.due("period 4", x.spectrum(0, 4, 0, 3), 100 + 196 + 4);
        C.due("period 5, rounded down", x.spectrum(0, 5, 1, 3), 300 * 5 / 3);
        C.due("period 3, rounded down", x.spectrum(0, 3, 0, 3), (4 + 100 + 196) * 3 / 4);
        C.due("period 1 of 10, 14, -2, rounded down", x.spectrum(0, 1, 1, 3), 484 / 3);
        TrackArray y = new TrackArray();
        y.setSound(100);
        y.setNoise(77, 99);
        y.addMicrophone(500, 0, 0, 3);
        y.addMicrophone(-250, 0, 0, 2);
        y.makeRecording();
        y.focusOnDirection(-70);
        long power = y.periodPower(13, 10, 209);
        y.focusOnPlace(5, 105, 5);
        long before = y.measureBeam(0, 0, 255);
        C.due("another direction", y.spectrum(-70, 13, 10, 209), power * 13 / 200);
        C.due("the focus stays", y.measureBeam(0, 0, 255), before);
        C.due("a great one", strong().spectrum(0, 64, 1, 255), 427680L * 427680 * (16 * 63 + 9) * 64 / 255);
    }

    private static void meanPowers() { // promise 37
        TrackArray x = Scenes.recorded();
        C.window("meanPower", (first, last) -> x.meanPower(first, last));
        C.dueDouble("meanPower(0, 3)", x.meanPower(0, 3), 612.0);
        C.dueDouble("meanPower(0, 0)", x.meanPower(0, 0), 900.0);
        C.dueDouble("meanPower(0, 2)", x.meanPower(0, 2), 2124.0 / 3.0);
        C.dueDouble("meanPower(252, 255)", x.meanPower(252, 255), 1324.0 / 4.0);
        C.dueDouble("meanPower(249, 255)", x.meanPower(249, 255), 2872.0 / 7.0);
        C.dueDouble("of silence", x.meanPower(255, 255), 0.0);
    }

    private static void crests() { // promise 38
        TrackArray x = Scenes.recorded();
        C.window("crest", (first, last) -> x.crest(first, last));
        C.dueDouble("crest(0, 0)", x.crest(0, 0), 1.0f);
        C.dueDouble("crest(0, 3)", x.crest(0, 3), (float) (900.0 / 612.0));
        C.dueDouble("crest(1, 3)", x.crest(1, 3), (float) (900.0 / (1548.0 / 3.0)));
        C.dueDouble("crest(253, 255)", x.crest(253, 255), (float) (324.0 / (424.0 / 3.0)));
        C.dueDouble("of silence", x.crest(255, 255), 0.0f);
        C.dueDouble("of a negative peak", x.crest(1, 1), 1.0f);
    }
}
