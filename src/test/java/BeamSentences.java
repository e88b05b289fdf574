import java.util.Arrays;

/** Sentences of the promises 29 to 38, and of BEAMS and MEASURES that belong to them. */
final class BeamSentences extends Sentences {
    /** The beam of Scenes.looking(). */
    private static final int[] NOISE = Scenes.noise(31, 99, 256);

    // ---- promise 29

    @Says(promise = 29, sentence = "The beam at the time t is the sum of the parts of all microphones at this time, "
            + "each times the weight of the microphone.")
    void beamIsTheSumOfWeighedParts() {
        TrackArray x = new TrackArray();
        x.setNoise(31, 99);
        for (int k = 0; k < 8; k++) {
            x.addMicrophone(0, 0, 0, k + 2);
        }
        x.makeRecording();
        x.focusOnDirection(0);
        int[] noise = Scenes.noise(31, 99, 2048);
        x.setWeight(3, 0);
        for (int time = 0; time <= 255; time++) {
            int due = 0;
            for (int k = 0; k < 8; k++) {
                due += noise[256 * k + time] * (k == 3 ? 0 : k + 2);
            }
            c.due("beam(" + time + ")", x.beam(time), due);
        }
        TrackArray y = Scenes.recorded();
        c.due("10 times 1 and 10 times 2", y.beam(0), 30);
        c.due("-6 times 1 and -6 times 2", y.beam(1), -18);
        c.due("10 times 1 and nothing behind the record", y.beam(254), 10);
        c.due("of no microphones", new TrackArray().beam(0), 0);
    }

    @Says(promise = 29, sentence = "`time`: 0 to 255")
    void firstAndLastTimeOfTheBeam() {
        TrackArray x = Scenes.looking();
        c.due("beam(0)", x.beam(0), NOISE[0]);
        c.due("beam(255)", x.beam(255), NOISE[255]);
    }

    @Says(promise = 29, sentence = "Returns the beam at this time.")
    void beamAtATime() {
        TrackArray x = Scenes.looking();
        x.setWeight(0, 7);
        for (int time = 0; time <= 255; time++) {
            c.due("beam(" + time + ")", x.beam(time), 7 * NOISE[time]);
        }
    }

    @Says(promise = 29, sentence = "Throws `IllegalArgumentException` if time is out of range")
    void beamOutOfTime() {
        refuses(ILLEGAL, (x, time) -> x.beam(time), -1, 256, MIN, MAX);
        refuses(ILLEGAL, TrackArray::new, x -> x.beam(-1), x -> x.beam(256));
    }

    // ---- promise 30

    /** The beam is 0 and then the values again and again. */
    private static TrackArray toned(int... values) {
        TrackArray x = Scenes.tone(values);
        x.focusOnDirection(0);
        return x;
    }

    @Says(promise = 30, sentence = "Takes a measure of the beam.")
    void measureIsOfTheBeam() {
        TrackArray x = Scenes.recorded();
        // 30, -18, 30, -18 ..
        c.due("the energy", x.measureBeam(0, 0, 3), 2448);
        x.setWeight(1, 0);
        c.due("the energy of one microphone", x.measureBeam(0, 0, 3), 272);
        c.due("the energy of no microphone", new TrackArray().measureBeam(0, 0, 255), 0);
    }

    @Says(promise = 30, sentence = "Measures are taken of a signal (a record or the beam) in a window: "
            + "the times from a first to a last one, 0 to 255.")
    void windowOfTheBeam() {
        TrackArray x = Scenes.looking();
        c.due("all", x.measureBeam(0, 0, 255), energy(NOISE, 0, 255));
        c.due("one", x.measureBeam(0, 9, 9), energy(NOISE, 9, 9));
        c.due("the first", x.measureBeam(0, 0, 0), energy(NOISE, 0, 0));
        c.due("the last", x.measureBeam(0, 255, 255), energy(NOISE, 255, 255));
        c.due("two", x.measureBeam(0, 9, 10), energy(NOISE, 9, 10));
    }

    @Says(promise = 30, sentence = "0 ENERGY the sum of the squares of the values")
    void energyOfTheBeam() {
        TrackArray x = toned(3, -4, 0);
        c.due("0, 3, -4, 0", x.measureBeam(0, 0, 3), 25);
        c.due("no sound", x.measureBeam(0, 0, 0), 0);
        TrackArray strong = strong();
        c.due("the greatest beam, 100 times", strong.measureBeam(0, 1, 100), 100L * 427680 * 427680);
    }

    /** Six strong sources at 100, beside eight heavy microphones: a beam of 8 * 9 * 6 * 990, but for the time 0. */
    private static TrackArray strong() {
        TrackArray x = new TrackArray();
        x.setSound(100);
        x.addVehicle(0, 0, 100);
        for (int k = 0; k < 6; k++) {
            x.addSource(0, 0, 0, 10, 99);
        }
        for (int k = 0; k < 8; k++) {
            x.addMicrophone(0, 0, 0, 9);
        }
        x.makeRecording();
        x.focusOnDirection(0);
        return x;
    }

    @Says(promise = 30, sentence = "1 PEAK the greatest absolute value")
    void peakOfTheBeam() {
        TrackArray x = toned(3, -4, 0);
        c.due("0, 3, -4, 0", x.measureBeam(1, 0, 3), 4);
        c.due("0, 3", x.measureBeam(1, 0, 1), 3);
        c.due("0", x.measureBeam(1, 3, 3), 0);
        c.due("the greatest", strong().measureBeam(1, 0, 255), 427680);
    }

    @Says(promise = 30, sentence = "2 LEVEL the number of binary digits of the energy;")
    void levelOfTheBeam() {
        TrackArray x = toned(1, 2, 3, 4, -8, 64, 99);
        int[] digits = {1, 3, 4, 5, 7, 13, 14};
        for (int k = 0; k < digits.length; k++) {
            c.due("level at " + (k + 1), x.measureBeam(2, k + 1, k + 1), digits[k]);
        }
        // 100 * 427680 * 427680 is 18291018240000, between 2 to the 44 and 2 to the 45
        c.due("level of the greatest", strong().measureBeam(2, 1, 100), 45);
    }

    @Says(promise = 30, sentence = "0 if the energy is 0")
    void levelOfNoEnergyOfTheBeam() {
        TrackArray x = toned(0, 1);
        c.due("one 0", x.measureBeam(2, 1, 1), 0);
        c.due("two", x.measureBeam(2, 0, 1), 0);
        c.due("one more", x.measureBeam(2, 0, 2), 1);
        c.due("of no microphones", new TrackArray().measureBeam(2, 0, 255), 0);
    }

    @Says(promise = 30, sentence = "3 SUM the sum of the values")
    void sumOfTheBeam() {
        TrackArray x = toned(3, -4, 0);
        c.due("0, 3, -4, 0", x.measureBeam(3, 0, 3), -1);
        c.due("-4", x.measureBeam(3, 2, 2), -4);
        c.due("the greatest", strong().measureBeam(3, 0, 255), 255 * 427680);
    }

    @Says(promise = 30, sentence = "4 CROSSINGS the number of times in the window, the first one excluded,")
    void crossingsOfTheBeamWithoutTheFirstTime() {
        TrackArray x = toned(3, -4);
        c.due("a window of one time", x.measureBeam(4, 2, 2), 0);
        c.due("a window of two times", x.measureBeam(4, 1, 2), 1);
        c.due("a window of three times", x.measureBeam(4, 1, 3), 2);
        c.due("all", x.measureBeam(4, 0, 255), 255);
    }

    @Says(promise = 30, sentence = "at which the value has another sign (-1, 0, 1) than the value before it")
    void crossingsOfSignsOfTheBeam() {
        TrackArray x = toned(5, 9, 0, 0, -4, -7, 3, 0, -1);
        int[] due = {0, 1, 1, 2, 2, 3, 3, 4, 5, 6, 7};
        for (int last = 0; last < due.length; last++) {
            c.due("up to " + last, x.measureBeam(4, 0, last), due[last]);
        }
    }

    @Says(promise = 30, sentence = "`measure`: 0 to 4")
    void eachMeasureOfTheBeam() {
        TrackArray x = toned(3, -4, 2);
        int[] due = {38, 4, 6, 4, 3};
        for (int measure = 0; measure <= 4; measure++) {
            c.due("measure " + measure, x.measureBeam(measure, 0, 4), due[measure]);
        }
    }

    @Says(promise = 30, sentence = "`first`: the first time of the window")
    void firstTimeOfAMeasure() {
        TrackArray x = Scenes.looking();
        firstTimes((first, last) -> x.measureBeam(0, first, last), (first, last) -> energy(NOISE, first, last));
    }

    @Says(promise = 30, sentence = "`last`: the last time of the window")
    void lastTimeOfAMeasure() {
        TrackArray x = Scenes.looking();
        lastTimes((first, last) -> x.measureBeam(0, first, last), (first, last) -> energy(NOISE, first, last));
    }

    @Says(promise = 30, sentence = "Returns the measure.")
    void measureOfTheBeam() {
        TrackArray x = Scenes.looking();
        long energy = energy(NOISE, 17, 200);
        c.due("energy", x.measureBeam(0, 17, 200), energy);
        c.due("peak", x.measureBeam(1, 17, 200), peak(NOISE, 17, 200));
        c.due("level", x.measureBeam(2, 17, 200), Long.toBinaryString(energy).length());
        c.due("sum", x.measureBeam(3, 17, 200), Arrays.stream(NOISE, 17, 201).sum());
        c.due("crossings", x.measureBeam(4, 17, 200), x.measureRecord(0, 4, 17, 200));
    }

    @Says(promise = 30, sentence = "Throws `IllegalArgumentException` if measure or the window is out of range")
    void measureOfTheBeamOutOfRange() {
        refuses(ILLEGAL, (x, measure) -> x.measureBeam(measure, 0, 255), -1, 5, MIN, MAX);
        refusesWindows((x, first, last) -> x.measureBeam(4, first, last));
    }

    // ---- promise 31

    @Says(promise = 31, sentence = "The power of a period p (1 to 64) in a window is computed by folding: "
            + "the values are added up by their index in the window modulo p;")
    void valuesAreFolded() {
        TrackArray x = toned(1, 10, 0, 0, 5);
        // 1, 10, 0, 0, 5, 1, 10, 0, 0, 5
        c.due("period 5 from 1 on", x.periodPower(5, 1, 10), 4 + 400 + 100);
        c.due("period 5 from 3 on", x.periodPower(5, 3, 10), 10 * 10 + 1 + 10 * 10);
        c.due("period 2 from 1 on", x.periodPower(2, 1, 5), 6 * 6 + 10 * 10);
        c.due("period 2 from 2 on", x.periodPower(2, 2, 6), 11 * 11 + 5 * 5);
        c.due("period 3 from 1 on", x.periodPower(3, 1, 4), 1 + 100);
    }

    @Says(promise = 31, sentence = "the power is the sum of the squares of these p sums.")
    void powerIsTheSumOfSquares() {
        TrackArray x = Scenes.looking();
        for (int period = 1; period <= 64; period++) {
            c.due("period " + period, x.periodPower(period, 3, 250), power(NOISE, period, 3, 250));
        }
        c.due("a great one", strong().periodPower(1, 1, 255), 255L * 255 * 427680 * 427680);
    }

    @Says(promise = 31, sentence = "`period`: 1 to 64")
    void leastAndGreatestPeriod() {
        TrackArray x = Scenes.looking();
        c.due("period 1", x.periodPower(1, 0, 255), power(NOISE, 1, 0, 255));
        c.due("period 64", x.periodPower(64, 0, 255), power(NOISE, 64, 0, 255));
        c.due("period 64 of fewer values", x.periodPower(64, 0, 62), energy(NOISE, 0, 62));
        c.due("period 64 of one value", x.periodPower(64, 255, 255), energy(NOISE, 255, 255));
    }

    @Says(promise = 31, sentence = "`first`: the first time of the window")
    void firstTimeOfAPower() {
        TrackArray x = Scenes.looking();
        firstTimes((first, last) -> x.periodPower(3, first, last), (first, last) -> power(NOISE, 3, first, last));
    }

    @Says(promise = 31, sentence = "`last`: the last time of the window")
    void lastTimeOfAPower() {
        TrackArray x = Scenes.looking();
        lastTimes((first, last) -> x.periodPower(3, first, last), (first, last) -> power(NOISE, 3, first, last));
    }

    @Says(promise = 31, sentence = "Returns the power of the period of the beam.")
    void powerOfTheBeam() {
        TrackArray x = Scenes.recorded();
        // 30, -18, 30, -18
        c.due("period 1", x.periodPower(1, 0, 3), 24 * 24);
        c.due("period 2", x.periodPower(2, 0, 3), 60 * 60 + 36 * 36);
        x.setWeight(1, 0);
        c.due("period 2 of one microphone", x.periodPower(2, 0, 3), 20 * 20 + 12 * 12);
        c.due("period 2 of no microphone", new TrackArray().periodPower(2, 0, 3), 0);
    }

    @Says(promise = 31, sentence = "Throws `IllegalArgumentException` if period or the window is out of range")
    void periodOutOfRange() {
        refuses(ILLEGAL, (x, period) -> x.periodPower(period, 0, 255), 0, 65, -1, MIN, MAX);
        refusesWindows((x, first, last) -> x.periodPower(1, first, last));
    }

    // ---- promise 32

    private static int bestPeriod(int greatest, int first, int last) {
        int best = 1;
        for (int period = 2; period <= greatest; period++) {
            best = strength(NOISE, period, first, last) > strength(NOISE, best, first, last) ? period : best;
        }
        return best;
    }

    @Says(promise = 32, sentence = "`greatest`: 1 to 64")
    void leastAndGreatestOfThePeriods() {
        TrackArray x = Scenes.looking();
        // the strength of one value grows with the period
        c.due("1", x.bestPeriod(1, 9, 9), 1);
        c.due("63", x.bestPeriod(63, 9, 9), 63);
        c.due("64", x.bestPeriod(64, 9, 9), 64);
    }

    @Says(promise = 32, sentence = "`first`: the first time of the window")
    void firstTimeOfTheBestPeriod() {
        TrackArray x = Scenes.looking();
        firstTimes((first, last) -> x.bestPeriod(64, first, last), (first, last) -> bestPeriod(64, first, last));
        for (int first = 1; first <= 20; first++) {
            c.due("of two from " + first, x.bestPeriod(2, first, first + 1), bestPeriod(2, first, first + 1));
        }
    }

    @Says(promise = 32, sentence = "`last`: the last time of the window")
    void lastTimeOfTheBestPeriod() {
        TrackArray x = Scenes.looking();
        lastTimes((first, last) -> x.bestPeriod(64, first, last), (first, last) -> bestPeriod(64, first, last));
        for (int last = 1; last <= 60; last++) {
            c.due("up to " + last, x.bestPeriod(5, 0, last), bestPeriod(5, 0, last));
        }
    }

    @Says(promise = 32, sentence = "Returns the period from 1 to greatest with the greatest period strength "
            + "of the beam,")
    void bestOfThePeriods() {
        TrackArray x = toned(7, -2, 1, 8, -6);
        c.due("a pattern of 5", x.bestPeriod(9, 1, 200), 5);
        c.due("a pattern of 5, just reached", x.bestPeriod(5, 1, 200), 5);
        // 7, -2, 1, 8: the period 3 has 230 * 3 / 4, the period 4 has 118
        c.due("of 4 values", x.bestPeriod(4, 1, 4), 3);
        TrackArray noise = Scenes.looking();
        for (int greatest = 1; greatest <= 64; greatest++) {
            c.due("of noise up to " + greatest, noise.bestPeriod(greatest, 5, 90), bestPeriod(greatest, 5, 90));
        }
    }

    @Says(promise = 32, sentence = "of several the shortest one.")
    void shortestOfTheBestPeriods() {
        c.due("of silence", new TrackArray().bestPeriod(64, 0, 255), 1);
        TrackArray x = Scenes.recorded();
        c.due("2 before 4, 6 and 8", x.bestPeriod(8, 0, 239), 2);
        TrackArray y = toned(2, 1, 0);
        // 2, 1, 0: 3 * 3 * 1 / 3 is 3, and (2 * 2 + 1) * 2 / 3 is 3 too, rounded down
        c.due("1 before 2", y.bestPeriod(2, 1, 3), 1);
    }

    @Says(promise = 32, sentence = "Throws `IllegalArgumentException` if greatest or the window is out of range")
    void greatestPeriodOutOfRange() {
        refuses(ILLEGAL, (x, greatest) -> x.bestPeriod(greatest, 0, 255), 0, 65, -1, MIN, MAX);
        refusesWindows((x, first, last) -> x.bestPeriod(1, first, last));
    }

    // ---- promise 33

    /** A microphone at 1500 whose record is noise; the focus is 100 across. */
    private static TrackArray aside() {
        TrackArray x = new TrackArray();
        x.setSound(100);
        x.addVehicle(-300, 10, 100);
        x.addMicrophone(1500, 0, 0, 1);
        x.setNoise(31, 99);
        x.makeRecording();
        return x;
    }

    private static long square(int sample) {
        return (long) NOISE[sample] * NOISE[sample];
    }

    @Says(promise = 33, sentence = "Tells the energy of a beam beside the focus:")
    void energyBesideTheFocus() {
        TrackArray x = aside();
        x.focusOnPlace(1500, 100, 0);
        c.due("at the focus", x.energyBeside(0, 7, 7), square(8));
        // 500 and 100: 509.9
        c.due("500 beside it", x.energyBeside(500, 7, 7), square(13));
        x.setWeight(0, 3);
        c.due("of the weight 3", x.energyBeside(500, 7, 7), 9 * square(13));
    }

    @Says(promise = 33, sentence = "its offset (riding)")
    void energyBesideARidingFocus() {
        TrackArray x = aside();
        x.focusOnVehicle(0, 300, 0);
        // the focus is at 10 * t, 1500 away at the time 0 and 1000 away at the time 50
        c.due("400 nearer at 0", x.energyBeside(400, 0, 0), square(0 + 12));
        c.due("400 farther at 0", x.energyBeside(-400, 0, 0), square(0 + 20));
        c.due("400 nearer at 50", x.energyBeside(400, 50, 50), square(50 + 7));
        c.due("400 farther at 50", x.energyBeside(-400, 50, 50), square(50 + 15));
    }

    @Says(promise = 33, sentence = "or x (fixed)")
    void energyBesideAFixedFocus() {
        TrackArray x = aside();
        x.focusOnPlace(500, 100, 0);
        c.due("400 nearer", x.energyBeside(400, 50, 50), square(50 + 7));
        c.due("400 farther", x.energyBeside(-400, 50, 50), square(50 + 15));
    }

    @Says(promise = 33, sentence = "or direction is changed by a number;")
    void energyBesideADirection() {
        TrackArray x = aside();
        x.focusOnDirection(20);
        // 1500 * 20 / 10000 is 3
        c.due("at the focus", x.energyBeside(0, 50, 50), square(53));
        c.due("20 more", x.energyBeside(20, 50, 50), square(56));
        c.due("20 less", x.energyBeside(-20, 50, 50), square(50));
        c.due("21 less", x.energyBeside(-21, 50, 50), square(49));
    }

    @Says(promise = 33, sentence = "the focus stays as it is.")
    void focusStaysBeside() {
        TrackArray x = aside();
        x.focusOnVehicle(0, 300, 0);
        x.energyBeside(400, 0, 255);
        c.due("riding", x.sampleNumber(0, 50), 50 + 11);
        x.focusOnPlace(500, 100, 0);
        x.energyBeside(-400, 0, 255);
        c.due("fixed", x.sampleNumber(0, 50), 50 + 11);
        x.focusOnDirection(20);
        x.energyBeside(-400, 0, 255);
        c.due("a direction", x.sampleNumber(0, 50), 53);
        refusesNothing(y -> y.energyBeside(2000, 0, 255));
    }

    /** The call is answered, and nothing shows afterwards that there was one. */
    private void refusesNothing(Call call) {
        TrackArray x = Scenes.rich();
        call.on(x);
        c.same("what is left", Fingerprint.of(x), Fingerprint.of(Scenes.rich()));
    }

    @Says(promise = 33, sentence = "The changed number may be beyond the ranges given above.")
    void changedNumbersBeyondTheRanges() {
        TrackArray x = aside();
        x.focusOnPlace(20000, 100, 0);
        // 20500 and 100: 20500.2
        c.due("an x of 22000", x.energyBeside(2000, 50, 50), square(50 + 205));
        c.due("an x of 22000, behind the record", x.energyBeside(2000, 51, 51), 0);
        x.focusOnPlace(-20000, 100, 0);
        c.due("an x of -22000", x.energyBeside(-2000, 20, 20), square(20 + 235));
        x.focusOnVehicle(0, 1000, 0);
        // -300 + 3000 is 1200 behind the microphone
        c.due("an offset of 3000", x.energyBeside(2000, 0, 0), square(13));
        x.focusOnVehicle(0, -1000, 0);
        c.due("an offset of -3000", x.energyBeside(-2000, 0, 0), square(49));
        x.focusOnDirection(100);
        // 1500 * 1600 / 10000
        c.due("a direction of 1600", x.energyBeside(1500, 0, 0), square(240));
        x.focusOnDirection(-100);
        c.due("a direction of -1600", x.energyBeside(-1500, 250, 250), square(10));
        c.due("a direction of -2100", x.energyBeside(-2000, 255, 255), 0);
    }

    @Says(promise = 33, sentence = "`by`: -2000 to 2000")
    void leastAndGreatestBy() {
        TrackArray x = aside();
        x.focusOnPlace(0, 100, 0);
        // 3500 and 100: 3501.4; 500 and 100: 509.9; 1500 and 100: 1503.3
        c.due("-2000", x.energyBeside(-2000, 9, 9), square(9 + 36));
        c.due("2000", x.energyBeside(2000, 9, 9), square(9 + 6));
        c.due("0", x.energyBeside(0, 9, 9), square(9 + 16));
    }

    @Says(promise = 33, sentence = "`first`: the first time of the window")
    void firstTimeBeside() {
        TrackArray x = Scenes.looking();
        firstTimes((first, last) -> x.energyBeside(0, first, last), (first, last) -> energy(NOISE, first, last));
    }

    @Says(promise = 33, sentence = "`last`: the last time of the window")
    void lastTimeBeside() {
        TrackArray x = Scenes.looking();
        lastTimes((first, last) -> x.energyBeside(0, first, last), (first, last) -> energy(NOISE, first, last));
    }

    @Says(promise = 33, sentence = "Returns the energy of that beam.")
    void energyOfThatBeam() {
        TrackArray x = Scenes.rich();
        // riding on the vehicle 1 with the offset 5, cut and spread
        long beside = x.energyBeside(-105, 10, 200);
        x.focusOnVehicle(1, -100, 60);
        c.due("as if it were the focus", beside, x.measureBeam(0, 10, 200));
        long other = x.energyBeside(300, 10, 200);
        x.focusOnVehicle(1, 200, 60);
        c.due("as if it were the focus, to the right", other, x.measureBeam(0, 10, 200));
    }

    @Says(promise = 33, sentence = "Throws `IllegalArgumentException` if by or the window is out of range")
    void byOutOfRange() {
        refuses(ILLEGAL, (x, by) -> x.energyBeside(by, 0, 255), -2001, 2001, MIN, MAX);
        refusesWindows((x, first, last) -> x.energyBeside(0, first, last));
    }

    // ---- promise 34

    /** Microphones at -1500, -700, 0, 600, 1600 hear a source at x that is 100 beside them. */
    private static TrackArray sounding(int x) {
        TrackArray array = new TrackArray();
        array.setSound(100);
        array.addVehicle(x, 0, 100);
        array.addSource(0, 0, 0, 1, 9);
        for (int value : new int[] {-8, 7, 1, -3, 2, -9, 4, 4, -6, 0, 5, -1, 8, 3, -7}) {
            array.addValue(0, value);
        }
        for (int along : new int[] {-1500, -700, 0, 600, 1600}) {
            array.addMicrophone(along, 0, 0, 1);
        }
        array.makeRecording();
        return array;
    }

    private static int scanned(TrackArray x, int step, int steps, int first, int last) {
        int best = 0;
        long most = x.energyBeside(0, first, last);
        for (int k = 1; k <= steps; k++) {
            long left = x.energyBeside(-k * step, first, last);
            if (left > most) {
                most = left;
                best = -k;
            }
            long right = x.energyBeside(k * step, first, last);
            if (right > most) {
                most = right;
                best = k;
            }
        }
        return best;
    }

    @Says(promise = 34, sentence = "Scans the places beside the focus.")
    void placesAreScanned() {
        TrackArray x = sounding(300);
        c.due("300 to the right", x.scan(100, 5, 60, 180), 3);
        x.focusOnPlace(900, 100, 0);
        c.due("600 to the left", x.scan(100, 9, 60, 180), -6);
        x.focusOnVehicle(0, -40, 0);
        c.due("40 to the right", x.scan(20, 9, 60, 180), 2);
    }

    @Says(promise = 34, sentence = "`step`: 1 to 100")
    void leastAndGreatestStep() {
        TrackArray x = sounding(400);
        c.due("steps of 100", x.scan(100, 4, 60, 180), 4);
        c.due("steps of 100 to the left", sounding(-400).scan(100, 4, 60, 180), -4);
        c.due("steps of 1", x.scan(1, 20, 60, 180), scanned(x, 1, 20, 60, 180));
        TrackArray y = plateau();
        c.due("steps of 1 to the place 15", y.scan(1, 20, 9, 9), -15);
    }

    /** The beam at 9 is the sample 10 from 0 to 14 beside the middle, and the greater sample 11 farther off. */
    private static TrackArray plateau() {
        return Scenes.tone(2, 1);
    }

    /** A time with a sample of the noise from 5 in this place that is greater than those in all other places. */
    private int timeOfTheGreatest(int place, int least, int most) {
        int[] noise = Scenes.noise(5, 99, 256);
        for (int time = Math.max(0, -least); time + most <= 255; time++) {
            boolean greatest = true;
            for (int other = least; other <= most; other++) {
                greatest &= other == place || Math.abs(noise[time + other]) < Math.abs(noise[time + place]);
            }
            if (greatest) {
                return time;
            }
        }
        c.complain("there is no such time");
        return 0;
    }

    @Says(promise = 34, sentence = "`steps`: 0 to 20")
    void leastAndGreatestSteps() {
        TrackArray x = new TrackArray();
        x.setSound(100);
        x.addMicrophone(-3000, 0, 0, 1);
        x.setNoise(5, 99);
        x.makeRecording();
        // 31 samples away, and 11 to 51 beside it
        x.focusOnPlace(50, 100, 0);
        int right = timeOfTheGreatest(51, 11, 51);
        int left = timeOfTheGreatest(11, 11, 51);
        c.due("20 steps", x.scan(100, 20, right, right), 20);
        c.due("20 steps to the left", x.scan(100, 20, left, left), -20);
        c.due("19 steps", x.scan(100, 19, right, right), scanned(x, 100, 19, right, right));
        c.due("no steps", x.scan(100, 0, right, right), 0);
        TrackArray one = sounding(100);
        c.due("1 step", one.scan(100, 1, 60, 180), 1);
        c.due("1 step to the left", sounding(-100).scan(100, 1, 60, 180), -1);
    }

    @Says(promise = 34, sentence = "`first`: the first time of the window")
    void firstTimeOfAScan() {
        TrackArray x = aside();
        x.focusOnDirection(0);
        for (int first : new int[] {0, 1, 30, 31, 32, 33, 34, 35, 36, 37, 38, 39, 40}) {
            c.due("two from " + first + " on", x.scan(7, 5, first, first + 1), scanned(x, 7, 5, first, first + 1));
        }
        c.due("the last one", x.scan(7, 5, 255, 255), scanned(x, 7, 5, 255, 255));
        c.due("all", x.scan(7, 5, 0, 255), scanned(x, 7, 5, 0, 255));
    }

    @Says(promise = 34, sentence = "`last`: the last time of the window")
    void lastTimeOfAScan() {
        TrackArray x = aside();
        x.focusOnDirection(0);
        for (int last : new int[] {31, 32, 33, 34, 35, 36, 37, 38, 39, 40, 41, 255}) {
            c.due("up to " + last, x.scan(7, 5, 30, last), scanned(x, 7, 5, 30, last));
        }
        c.due("the first one", x.scan(7, 5, 0, 0), scanned(x, 7, 5, 0, 0));
    }

    @Says(promise = 34, sentence = "Returns the number k from -steps to steps for which "
            + "energyBeside(k * step, first, last) is greatest;")
    void greatestEnergyBeside() {
        TrackArray x = aside();
        x.focusOnDirection(10);
        for (int step = 1; step <= 100; step += 11) {
            c.due("directions in steps of " + step, x.scan(step, 4, 40, 41), scanned(x, step, 4, 40, 41));
        }
        x.focusOnPlace(700, 100, 0);
        for (int step = 1; step <= 100; step += 11) {
            c.due("places in steps of " + step, x.scan(step, 6, 40, 41), scanned(x, step, 6, 40, 41));
        }
        x.focusOnVehicle(0, 0, 0);
        for (int step = 1; step <= 100; step += 11) {
            c.due("riding in steps of " + step, x.scan(step, 6, 40, 41), scanned(x, step, 6, 40, 41));
        }
    }

    @Says(promise = 34, sentence = "of several the one with the least absolute value,")
    void leastOfTheBestPlaces() {
        c.due("of silence", new TrackArray().scan(100, 20, 0, 255), 0);
        TrackArray x = plateau();
        // from 15 to the right and from 15 to the left the beam is as great; from 5 on these are 10 and -20 steps
        x.focusOnPlace(5, 100, 0);
        c.due("10 before 11 and -20", x.scan(1, 20, 9, 9), 10);
        x.focusOnPlace(-5, 100, 0);
        c.due("-10 before -11 and 20", x.scan(1, 20, 9, 9), -10);
        x.focusOnPlace(0, 100, 0);
        c.due("0 before all that are as good", x.scan(1, 14, 9, 9), 0);
        c.due("0 before all that are less", x.scan(1, 20, 8, 8), 0);
    }

    @Says(promise = 34, sentence = "then the negative one.")
    void negativeOfTheBestPlaces() {
        TrackArray x = plateau();
        c.due("-15 before 15", x.scan(1, 20, 9, 9), -15);
        c.due("-1 before 1", x.scan(20, 1, 9, 9), -1);
        c.due("as good", x.energyBeside(-15, 9, 9), x.energyBeside(15, 9, 9));
    }

    @Says(promise = 34, sentence = "Throws `IllegalArgumentException` if an argument or the window is out of range")
    void scanOutOfRange() {
        refuses(ILLEGAL, (x, step) -> x.scan(step, 1, 0, 9), 0, 101, -1, MIN, MAX);
        refuses(ILLEGAL, (x, steps) -> x.scan(1, steps, 0, 9), -1, 21, MIN, MAX);
        refusesWindows((x, first, last) -> x.scan(1, 0, first, last));
    }

    // ---- promise 35

    /** A microphone at 5000, so that in the direction s the beam at t is the sample t + s / 2, rounded down. */
    private static TrackArray halves() {
        TrackArray x = new TrackArray();
        x.setSound(100);
        x.setNoise(31, 99);
        x.addMicrophone(5000, 0, 0, 1);
        x.makeRecording();
        return x;
    }

    private static int bestDirection(int step, int first, int last) {
        int best = -100;
        long most = -1;
        for (int direction = -100; direction <= 100; direction += step) {
            long energy = 0;
            for (int time = first; time <= last; time++) {
                int sample = time + Math.floorDiv(direction, 2);
                energy += sample < 0 || sample > 255 ? 0 : square(sample);
            }
            if (energy > most) {
                most = energy;
                best = direction;
            }
        }
        return best;
    }

    @Says(promise = 35, sentence = "Finds the direction of the sound.")
    void directionIsFound() {
        // far away to the left, the sound comes to microphones 600 apart six samples later each
        TrackArray x = new TrackArray();
        x.setSound(100);
        x.addVehicle(-8000, 0, 100);
        x.addSource(0, 0, 0, 1, 9);
        for (int value : new int[] {-8, 7, 1, -3, 2, -9, 4, 4, -6, 0, 5, -1, 8, 3, -7}) {
            x.addValue(0, value);
        }
        for (int k = -1; k <= 1; k++) {
            x.addMicrophone(600 * k, 0, 0, 1);
        }
        x.makeRecording();
        c.due("from the left", x.bestDirection(1, 100, 200), 100);
        c.due("from the left in steps of 100", x.bestDirection(100, 100, 200), 100);
    }

    @Says(promise = 35, sentence = "`step`: 1 to 100")
    void leastAndGreatestStepOfDirections() {
        TrackArray x = halves();
        for (int time = 50; time <= 205; time += 5) {
            c.due("steps of 1 at " + time, x.bestDirection(1, time, time), bestDirection(1, time, time));
            c.due("steps of 100 at " + time, x.bestDirection(100, time, time), bestDirection(100, time, time));
        }
    }

    @Says(promise = 35, sentence = "`first`: the first time of the window")
    void firstTimeOfTheBestDirection() {
        TrackArray x = halves();
        for (int first : new int[] {0, 1, 50, 51, 52, 53, 54, 55, 100, 254}) {
            c.due("two from " + first, x.bestDirection(3, first, first + 1), bestDirection(3, first, first + 1));
        }
        c.due("the last one", x.bestDirection(3, 255, 255), bestDirection(3, 255, 255));
    }

    @Says(promise = 35, sentence = "`last`: the last time of the window")
    void lastTimeOfTheBestDirection() {
        TrackArray x = halves();
        for (int last : new int[] {50, 51, 52, 53, 54, 55, 56, 57, 58, 255}) {
            c.due("up to " + last, x.bestDirection(3, 50, last), bestDirection(3, 50, last));
        }
        c.due("the first one", x.bestDirection(3, 0, 0), bestDirection(3, 0, 0));
    }

    @Says(promise = 35, sentence = "Returns of the directions -100, -100 + step and so on up to 100 the one "
            + "whose beam has the greatest energy,")
    void directionWithTheGreatestEnergy() {
        TrackArray x = halves();
        for (int step = 1; step <= 100; step++) {
            c.due("steps of " + step, x.bestDirection(step, 100, 100), bestDirection(step, 100, 100));
            c.due("steps of " + step + " of many", x.bestDirection(step, 90, 110), bestDirection(step, 90, 110));
        }
        TrackArray y = halves();
        y.setNoise(5, 99);
        y.makeRecording();
        int right = timeOfTheGreatest(50, -50, 50);
        c.due("the direction 100", y.bestDirection(1, right, right), 100);
        c.due("the direction 100 in steps of 100", y.bestDirection(100, right, right), 100);
        c.due("100 is none of -100, -1 and 98", y.bestDirection(99, right, right) < 99, true);
        int left = timeOfTheGreatest(-50, -50, 50);
        c.due("the direction -100", y.bestDirection(1, left, left), -100);
        c.due("the direction -100 in steps of 77", y.bestDirection(77, left, left), -100);
    }

    @Says(promise = 35, sentence = "of several the least one;")
    void leastOfTheBestDirections() {
        c.due("of silence", new TrackArray().bestDirection(7, 0, 255), -100);
        TrackArray x = new TrackArray();
        x.setSound(1000);
        x.addVehicle(5000, 0, 100);
        x.addSource(0, 0, 0, 1, 50);
        for (int k = 1; k < 16; k++) {
            x.addValue(0, 0);
        }
        x.addMicrophone(5000, 0, 0, 1);
        x.makeRecording();
        x.setSound(100);
        // 50 at the samples 1, 17, 33 ..; from the time 51 they are seen in -100 and -99, -68 and -67 ..
        c.due("-100 before -99, -68 ..", x.bestDirection(1, 51, 51), -100);
        c.due("-98 before -97, -66 ..", x.bestDirection(1, 50, 50), -98);
        c.due("-97, in steps of 3, before others", x.bestDirection(3, 50, 50), -97);
    }

    @Says(promise = 35, sentence = "the focus stays as it is.")
    void focusStaysInTheBestDirection() {
        refusesNothing(x -> x.bestDirection(9, 0, 255));
        TrackArray x = aside();
        x.focusOnDirection(20);
        x.bestDirection(1, 50, 60);
        c.due("a direction", x.sampleNumber(0, 50), 53);
    }

    @Says(promise = 35, sentence = "Throws `IllegalArgumentException` if step or the window is out of range")
    void stepOfDirectionsOutOfRange() {
        refuses(ILLEGAL, (x, step) -> x.bestDirection(step, 0, 9), 0, 101, -1, MIN, MAX);
        refusesWindows((x, first, last) -> x.bestDirection(100, first, last));
    }

    // ---- promise 36

    @Says(promise = 36, sentence = "Tells the spectrum by angle.")
    void spectrumByAngle() {
        TrackArray x = halves();
        for (int direction = -100; direction <= 100; direction += 20) {
            int shift = direction / 2;
            c.due("in the direction " + direction, x.spectrum(direction, 7, 60, 99),
                    strength(NOISE, 7, 60 + shift, 99 + shift));
        }
    }

    @Says(promise = 36, sentence = "The period strength is the power times p, divided by the number of values.")
    void periodStrength() {
        TrackArray x = Scenes.tone(2, 1, 0, 5);
        // 2, 1, 0, 5
        c.due("period 1", x.spectrum(0, 1, 1, 4), 64 / 4);
        c.due("period 2", x.spectrum(0, 2, 1, 4), (4 + 36) * 2 / 4);
        c.due("period 3", x.spectrum(0, 3, 1, 4), (49 + 1) * 3 / 4);
        c.due("period 4", x.spectrum(0, 4, 1, 4), 30);
        c.due("period 64", x.spectrum(0, 64, 1, 4), 30 * 64 / 4);
        c.due("of two values", x.spectrum(0, 3, 1, 2), 5 * 3 / 2);
        c.due("of one value", x.spectrum(0, 3, 4, 4), 25 * 3);
        c.due("a great one", strong().spectrum(0, 1, 1, 255), 255L * 427680 * 427680);
    }

    @Says(promise = 36, sentence = "Each division in this description truncates toward 0.")
    void strengthIsTruncated() {
        TrackArray x = Scenes.tone(2, 1, 0);
        c.due("5 * 2 / 3", x.spectrum(0, 2, 1, 3), 3);
        c.due("1 * 1 / 2", x.spectrum(0, 1, 2, 3), 0);
        c.due("4 * 1 / 3", x.spectrum(0, 1, 3, 5), 9 / 3);
    }

    @Says(promise = 36, sentence = "`direction`: -100 to 100")
    void leastAndGreatestDirectionOfASpectrum() {
        TrackArray x = halves();
        c.due("-100", x.spectrum(-100, 1, 60, 60), square(10));
        c.due("100", x.spectrum(100, 1, 60, 60), square(110));
        c.due("-100 before the record", x.spectrum(-100, 1, 49, 49), 0);
        c.due("100 behind the record", x.spectrum(100, 1, 206, 206), 0);
    }

    @Says(promise = 36, sentence = "`period`: 1 to 64")
    void leastAndGreatestPeriodOfASpectrum() {
        TrackArray x = Scenes.noisy(31, 99);
        c.due("period 1", x.spectrum(0, 1, 0, 255), strength(NOISE, 1, 0, 255));
        c.due("period 64", x.spectrum(0, 64, 0, 255), strength(NOISE, 64, 0, 255));
    }

    @Says(promise = 36, sentence = "`first`: the first time of the window")
    void firstTimeOfASpectrum() {
        TrackArray x = Scenes.noisy(31, 99);
        firstTimes((first, last) -> x.spectrum(0, 5, first, last), (first, last) -> strength(NOISE, 5, first, last));
    }

    @Says(promise = 36, sentence = "`last`: the last time of the window")
    void lastTimeOfASpectrum() {
        TrackArray x = Scenes.noisy(31, 99);
        lastTimes((first, last) -> x.spectrum(0, 5, first, last), (first, last) -> strength(NOISE, 5, first, last));
    }

    @Says(promise = 36, sentence = "Returns the period strength of the beam in this direction;")
    void strengthInADirection() {
        TrackArray x = halves();
        x.setWeight(0, 4);
        for (int period = 1; period <= 64; period++) {
            c.due("period " + period, x.spectrum(-8, period, 10, 200),
                    16 * power(NOISE, period, 6, 196) * period / 191);
        }
        c.due("of no microphones", new TrackArray().spectrum(3, 5, 0, 255), 0);
    }

    @Says(promise = 36, sentence = "the focus stays as it is.")
    void focusStaysInASpectrum() {
        refusesNothing(x -> x.spectrum(-77, 5, 0, 255));
        TrackArray x = aside();
        x.focusOnDirection(20);
        x.spectrum(-77, 5, 0, 255);
        c.due("a direction", x.sampleNumber(0, 50), 53);
    }

    @Says(promise = 36, sentence = "Throws `IllegalArgumentException` if an argument or the window is out of range")
    void spectrumOutOfRange() {
        refuses(ILLEGAL, (x, direction) -> x.spectrum(direction, 1, 0, 9), -101, 101, MIN, MAX);
        refuses(ILLEGAL, (x, period) -> x.spectrum(0, period, 0, 9), 0, 65, -1, MIN, MAX);
        refusesWindows((x, first, last) -> x.spectrum(0, 1, first, last));
    }

    // ---- promise 37

    private static double mean(int first, int last) {
        return (double) energy(NOISE, first, last) / (double) (last - first + 1);
    }

    @Says(promise = 37, sentence = "`first`: the first time of the window")
    void firstTimeOfAMeanPower() {
        TrackArray x = Scenes.looking();
        for (int first : new int[] {0, 1, 100, 254, 255}) {
            c.dueDouble("from " + first + " on", x.meanPower(first, 255), mean(first, 255));
        }
    }

    @Says(promise = 37, sentence = "`last`: the last time of the window")
    void lastTimeOfAMeanPower() {
        TrackArray x = Scenes.looking();
        for (int last : new int[] {0, 1, 100, 254, 255}) {
            c.dueDouble("up to " + last, x.meanPower(0, last), mean(0, last));
        }
    }

    @Says(promise = 37, sentence = "Returns the mean power of the beam: its energy divided by the number of times "
            + "in the window, as double numbers.")
    void meanPowerOfTheBeam() {
        TrackArray x = toned(3, -4, 0);
        // 3, -4, 0
        c.dueDouble("25 in 3", x.meanPower(1, 3), 25.0 / 3.0);
        c.dueDouble("25 in 2", x.meanPower(1, 2), 12.5);
        c.dueDouble("9 in 1", x.meanPower(1, 1), 9.0);
        c.dueDouble("0 in 1", x.meanPower(0, 0), 0.0);
        c.dueDouble("0 in 256", new TrackArray().meanPower(0, 255), 0.0);
        c.dueDouble("a great one", strong().meanPower(0, 255), 255.0 * 427680.0 * 427680.0 / 256.0);
        TrackArray y = Scenes.recorded();
        c.dueDouble("of both microphones", y.meanPower(0, 6), (4 * 900.0 + 3 * 324.0) / 7.0);
    }

    @Says(promise = 37, sentence = "Throws `IllegalArgumentException` if the window is out of range")
    void meanPowerOutOfWindow() {
        refusesWindows((x, first, last) -> x.meanPower(first, last));
    }

    // ---- promise 38

    private static float crest(int first, int last) {
        double peak = peak(NOISE, first, last);
        return (float) (peak * peak / mean(first, last));
    }

    @Says(promise = 38, sentence = "`first`: the first time of the window")
    void firstTimeOfACrest() {
        TrackArray x = Scenes.looking();
        for (int first : new int[] {0, 1, 100, 254, 255}) {
            c.dueDouble("from " + first + " on", x.crest(first, 255), crest(first, 255));
        }
    }

    @Says(promise = 38, sentence = "`last`: the last time of the window")
    void lastTimeOfACrest() {
        TrackArray x = Scenes.looking();
        for (int last : new int[] {0, 1, 100, 254, 255}) {
            c.dueDouble("up to " + last, x.crest(0, last), crest(0, last));
        }
    }

    @Says(promise = 38, sentence = "Returns the crest factor of the beam: the square of its peak divided by "
            + "its mean power, computed with double numbers and then converted to float;")
    void crestOfTheBeam() {
        TrackArray x = toned(3, -4, 0);
        c.dueDouble("16 by 25 in 3", x.crest(1, 3), (float) (16.0 / (25.0 / 3.0)));
        c.dueDouble("16 by 25 in 2", x.crest(1, 2), (float) (16.0 / 12.5));
        c.dueDouble("9 by 9", x.crest(1, 1), 1.0f);
        c.dueDouble("16 by 16", x.crest(2, 2), 1.0f);
        c.dueDouble("16 by 16 in 2", x.crest(2, 3), 2.0f);
        TrackArray y = Scenes.recorded();
        c.dueDouble("of both microphones", y.crest(0, 6), (float) (900.0 / ((4 * 900.0 + 3 * 324.0) / 7.0)));
    }

    @Says(promise = 38, sentence = "0 if the energy is 0.")
    void crestOfNoEnergy() {
        c.dueDouble("of no microphones", new TrackArray().crest(0, 255), 0.0f);
        TrackArray x = toned(0, 7);
        c.dueDouble("of one 0", x.crest(1, 1), 0.0f);
        c.dueDouble("of two", x.crest(0, 1), 0.0f);
        c.dueDouble("of one more", x.crest(0, 2), 3.0f);
    }

    @Says(promise = 38, sentence = "Throws `IllegalArgumentException` if the window is out of range")
    void crestOutOfWindow() {
        refusesWindows((x, first, last) -> x.crest(first, last));
    }
}
