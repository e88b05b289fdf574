import java.util.Arrays;

/** Sentences of the promises 16 to 22, and of PATHS, RECORDING and MEASURES that belong to them. */
final class RecordSentences extends Sentences {

    // ---- promise 16

    @Says(promise = 16, sentence = "Makes a recording.")
    void recordingIsMade() {
        TrackArray x = Scenes.plain();
        c.due("the peak before", x.measureRecord(0, 1, 0, 255), 0);
        x.makeRecording();
        c.due("the peak then", x.measureRecord(0, 1, 0, 255), 10);
        c.due("count(3)", x.count(3), 1);
    }

    @Says(promise = 16, sentence = "Returns the number of recordings that have been made.")
    void numberOfRecordings() {
        TrackArray none = new TrackArray();
        for (int number = 1; number <= 300; number++) {
            c.due("makeRecording() of nothing", none.makeRecording(), number);
        }
        TrackArray x = Scenes.crammed();
        c.due("a third one", x.makeRecording(), 3);
        c.due("a fourth one", x.makeRecording(), 4);
        x.restore(1);
        c.due("a second one after the first was restored", x.makeRecording(), 2);
    }

    @Says(promise = 16, sentence = "The record of a microphone is its 256 samples:")
    void recordHas256Samples() {
        int[] due = Scenes.noise(77, 50, 256);
        TrackArray x = Scenes.noisy(77, 50);
        for (int n = 0; n < 256; n++) {
            c.due("sample " + n, x.sample(0, n), due[n]);
        }
        c.illegal("the sample 256", () -> x.sample(0, 256));
        c.due("the energy of all", x.measureRecord(0, 0, 0, 255), energy(due, 0, 255));
    }

    @Says(promise = 16, sentence = "each is the sum of the amounts that it hears from all sources on both paths, "
            + "plus noise.")
    void sampleIsTheSumOfAll() {
        TrackArray x = Scenes.echoing();
        x.addVehicle(0, 0, 200);
        x.addSource(1, 0, 150, 1, -7);
        x.setNoise(4, 9);
        x.makeRecording();
        int[] noise = Scenes.noise(4, 9, 256);
        // -7 after 2 samples, half of it after 360 centimeters; 10 after 4, half of it after 5
        int[] due = {0, 0, -7, -7, -7 - 3 + 10, -7 - 3 + 10 + 5};
        for (int n = 0; n <= 255; n++) {
            c.due("sample " + n, x.sample(0, n), due[Math.min(n, 5)] + noise[n]);
        }
    }

    @Says(promise = 16, sentence = "An emitted value e that is heard over the distance d "
            + "(the one at the time of its emission) has the amount e")
    void amountWithoutSpreading() {
        TrackArray x = fading();
        x.makeRecording();
        c.due("over 500", x.sample(0, 5), 990);
        c.due("over 300", x.sample(0, 20), 990);
        TrackArray y = Scenes.tone(99, -99, 1, 0);
        c.due("99", y.sample(0, 1), 99);
        c.due("-99", y.sample(0, 2), -99);
        c.due("1", y.sample(0, 3), 1);
        c.due("0", y.sample(0, 4), 0);
    }

    /** 990 that comes from 500 away, passes at 300 and goes. */
    private static TrackArray fading() {
        TrackArray x = new TrackArray();
        x.setSound(100);
        x.addVehicle(400, -30, 300);
        x.addSource(0, 0, 0, 10, 99);
        x.addMicrophone(0, 0, 0, 1);
        return x;
    }

    @Says(promise = 16, sentence = "or e * 1000 / (1000 + d) if spreading is on (it is off at first);")
    void amountWithSpreading() {
        TrackArray x = fading();
        x.makeRecording();
        c.due("at first", x.sample(0, 5), 990);
        x.setSpreading(true);
        x.makeRecording();
        c.due("over 500", x.sample(0, 5), 660);
        // at 14 the one from 10 is heard, over 316, though the vehicle is 302 away when it is heard
        c.due("over 316", x.sample(0, 14), 990000 / 1316);
        c.due("not yet heard", x.sample(0, 4), 0);
        TrackArray near = Scenes.tone(99);
        near.addMicrophone(0, 99, 0, 1);
        near.setSpreading(true);
        near.makeRecording();
        c.due("99 over 100", near.sample(0, 1), 90);
        c.due("99 over 1", near.sample(1, 1), 98);
    }

    @Says(promise = 16, sentence = "a reflected value has this amount times the ground (-90 to 90, 0 at first) "
            + "divided by 100.")
    void reflectedAmount() {
        TrackArray x = Scenes.tone(99);
        c.due("no ground at first", x.sample(0, 1), 99);
        x.setGround(90);
        x.makeRecording();
        c.due("a ground of 90", x.sample(0, 1), 99 + 89);
        x.setGround(-90);
        x.makeRecording();
        c.due("a ground of -90", x.sample(0, 1), 99 - 89);
        x.setSpreading(true);
        x.makeRecording();
        // 90 of both paths
        c.due("a ground of -90 with spreading", x.sample(0, 1), 90 - 81);
        // 5 is spread to 4 first, of which 90 in the hundred are 3
        TrackArray y = Scenes.tone(5);
        y.setGround(90);
        y.setSpreading(true);
        y.makeRecording();
        c.due("what is spread is truncated first", y.sample(0, 1), 4 + 3);
    }

    @Says(promise = 16, sentence = "Each division in this description truncates toward 0.")
    void amountsAreTruncatedTowardZero() {
        TrackArray x = Scenes.tone(5, -5, 1, -1, 99, -99);
        x.setGround(50);
        x.makeRecording();
        int[] due = {5 + 2, -5 - 2, 1, -1, 99 + 49, -99 - 49};
        for (int k = 0; k < due.length; k++) {
            c.due("with half of it " + k, x.sample(0, 1 + k), due[k]);
        }
        x.setGround(-50);
        x.makeRecording();
        int[] less = {5 - 2, -5 + 2, 1, -1, 99 - 49, -99 + 49};
        for (int k = 0; k < less.length; k++) {
            c.due("without half of it " + k, x.sample(0, 1 + k), less[k]);
        }
        x.setGround(0);
        x.setSpreading(true);
        x.makeRecording();
        // 5000 / 1100 is 4.5, 99000 / 1100 is 90
        int[] spread = {4, -4, 0, 0, 90, -90};
        for (int k = 0; k < spread.length; k++) {
            c.due("spread " + k, x.sample(0, 1 + k), spread[k]);
        }
    }

    @Says(promise = 16, sentence = "Making a recording computes all records;")
    void allRecordsAreComputed() {
        TrackArray x = Scenes.full();
        x.makeRecording();
        for (int microphone = 0; microphone < 8; microphone++) {
            c.due("what the microphone " + microphone + " hears", x.sample(microphone, 1), 15);
            c.due("and at last", x.sample(microphone, 255), 15);
        }
    }

    @Says(promise = 16, sentence = "they stay as they are until the next recording, also if something is changed.")
    void recordsStay() {
        TrackArray x = Scenes.recorded();
        x.setSound(1000);
        x.setGround(90);
        x.setSpreading(true);
        x.setNoise(5, 50);
        x.setCut(true);
        x.addValue(0, 99);
        x.addVehicle(0, 0, 150);
        x.addSource(1, 0, 0, 10, 99);
        x.addMicrophone(0, 0, 0, 1);
        x.setWeight(0, 9);
        x.focusOnDirection(3);
        c.due("the energy of 0", x.measureRecord(0, 0, 0, 255), 128 * 100 + 127 * 36);
        c.due("the sum of 0", x.measureRecord(0, 3, 0, 255), 128 * 10 - 127 * 6);
        c.due("the energy of 1", x.measureRecord(1, 0, 0, 255), 127 * 100 + 127 * 36);
        x.setNoise(5, 0);
        x.makeRecording();
        c.due("a sample then", x.sample(0, 1) > 900, true);
    }

    @Says(promise = 17, sentence = "At first, and with microphones that were added after the recording, records are 0.")
    void recordsAre0AtFirst() {
        TrackArray x = Scenes.full();
        x.setNoise(1, 99);
        for (int microphone = 0; microphone < 8; microphone++) {
            c.due("the peak of " + microphone, x.measureRecord(microphone, 1, 0, 255), 0);
        }
        c.due("a sample", x.sample(7, 255), 0);
    }

    @Says(promise = 16, sentence = "At first, and with microphones that were added after the recording, records are 0.")
    void recordsOfLaterMicrophonesAre0() {
        TrackArray x = Scenes.recorded();
        c.due("a later microphone", x.addMicrophone(0, 0, 0, 1), 2);
        c.due("its peak", x.measureRecord(2, 1, 0, 255), 0);
        c.due("the peak of an earlier one", x.measureRecord(0, 1, 0, 255), 10);
        x.makeRecording();
        c.due("its peak after the next recording", x.measureRecord(2, 1, 0, 255), 10);
        x.save(0);
        x.addMicrophone(0, 0, 0, 1);
        x.makeRecording();
        x.restore(0);
        c.due("one more, where one was before the restoring", x.addMicrophone(0, 0, 0, 1), 3);
        c.due("its peak", x.measureRecord(3, 1, 0, 255), 0);
    }

    @Says(promise = 16, sentence = "Noise: the random generator has a state (1 at first).")
    void generatorIsAt1AtFirst() {
        TrackArray x = new TrackArray();
        // a setup sets the level alone, and brings the generator back to its first state
        Checks.loadText(x, "noise 99; mic 0 0 0 1;");
        x.makeRecording();
        c.due("the first noise", x.sample(0, 0), 16838 % 199 - 99);
        c.due("it is that of the seed 1", x.sample(0, 255), Scenes.noisy(1, 99).sample(0, 255));
    }

    @Says(promise = 16, sentence = "A draw of m replaces the state s by (s * 1103515245 + 12345) modulo 2147483648, "
            + "computed without overflow,")
    void statesAreReplacedWithoutOverflow() {
        for (int seed : new int[] {0, 1, 65535, 65536, 1103515245, 2147483646, MAX}) {
            int[] due = Scenes.noise(seed, 99, 256);
            TrackArray x = Scenes.noisy(seed, 99);
            for (int n = 0; n <= 255; n++) {
                c.due("noise " + n + " from " + seed, x.sample(0, n), due[n]);
            }
        }
    }

    @Says(promise = 16, sentence = "and yields (s / 65536) modulo m for the new s.")
    void drawYieldsTheNewState() {
        // 1 becomes 1103527590, which is 16838 times 65536 and more
        c.due("modulo 3", Scenes.noisy(1, 1).sample(0, 0), 16838 % 3 - 1);
        c.due("modulo 21", Scenes.noisy(1, 10).sample(0, 0), 16838 % 21 - 10);
        c.due("modulo 199", Scenes.noisy(1, 99).sample(0, 0), 16838 % 199 - 99);
    }

    @Says(promise = 16, sentence = "If the noise level a (0 to 99, 0 at first) is not 0,")
    void noNoiseAtLevel0() {
        TrackArray x = new TrackArray();
        x.addMicrophone(0, 0, 0, 1);
        x.makeRecording();
        c.due("the peak at first", x.measureRecord(0, 1, 0, 255), 0);
        x.setNoise(99999, 0);
        x.makeRecording();
        c.due("the peak at level 0", x.measureRecord(0, 1, 0, 255), 0);
        x.setNoise(99999, 1);
        x.makeRecording();
        c.due("the peak at level 1", x.measureRecord(0, 1, 0, 255), 1);
        x.setNoise(99999, 0);
        x.makeRecording();
        c.due("the peak at level 0 again", x.measureRecord(0, 1, 0, 255), 0);
    }

    @Says(promise = 16, sentence = "a recording draws 2 * a + 1 for each sample,")
    void drawsOfEachSample() {
        for (int level : new int[] {1, 2, 5}) {
            int[] seen = new int[2 * level + 1];
            TrackArray x = Scenes.noisy(19, level);
            int[] due = Scenes.noise(19, level, 512);
            for (int n = 0; n <= 255; n++) {
                seen[Math.floorMod(x.sample(0, n) + level, 2 * level + 1)]++;
            }
            c.due("each number of level " + level + " is drawn", Arrays.stream(seen).min().orElse(0) > 0, true);
            x.makeRecording();
            c.due("the next recording draws on", x.sample(0, 0), due[256]);
            c.due("the next recording draws on to its end", x.sample(0, 255), due[511]);
        }
    }

    @Says(promise = 16, sentence = "for the microphones in ascending order, and of each for the samples "
            + "in ascending order;")
    void orderOfDraws() {
        TrackArray x = noisyTwo();
        int[] due = Scenes.noise(31, 99, 512);
        for (int n = 0; n <= 255; n += 2) {
            c.due("sample " + n + " of 0", x.sample(0, n), due[n]);
            c.due("sample " + n + " of 1", x.sample(1, n), due[256 + n]);
        }
        c.due("sample 255 of 0", x.sample(0, 255), due[255]);
        c.due("sample 255 of 1", x.sample(1, 255), due[511]);
    }

    /** Two microphones whose records are noise(31, 99, 512), one behind the other. */
    private static TrackArray noisyTwo() {
        TrackArray x = new TrackArray();
        x.addMicrophone(0, 0, 0, 1);
        x.addMicrophone(0, 0, 0, 1);
        x.setNoise(31, 99);
        x.makeRecording();
        return x;
    }

    private static final int[] ONE = Scenes.noise(31, 99, 256);
    private static final int[] OTHER = Arrays.copyOfRange(Scenes.noise(31, 99, 512), 256, 512);

    @Says(promise = 16, sentence = "the noise is the number drawn minus a.")
    void noiseIsTheNumberMinusTheLevel() {
        // a number of 0 is drawn from the state 0
        for (int level = 1; level <= 99; level++) {
            c.due("0 at level " + level, Scenes.noisy(0, level).sample(0, 0), -level);
        }
        TrackArray x = Scenes.noisy(6, 3);
        int[] due = Scenes.noise(6, 3, 256);
        c.due("the sum", x.measureRecord(0, 3, 0, 255), Arrays.stream(due).sum());
        c.due("the peak", x.measureRecord(0, 1, 0, 255), 3);
    }

    // ---- promise 17

    @Says(promise = 17, sentence = "`microphone`: a microphone")
    void samplesOfFirstAndLast() {
        TrackArray x = Scenes.crammed();
        for (int microphone = 0; microphone < 8; microphone += 7) {
            long sum = 0;
            for (int n = 0; n <= 99; n++) {
                sum += x.sample(microphone, n);
            }
            c.due("the samples of " + microphone, sum, x.measureRecord(microphone, 3, 0, 99));
        }
        c.due("they are not alike", x.measureRecord(0, 3, 0, 99) == x.measureRecord(7, 3, 0, 99), false);
    }

    @Says(promise = 17, sentence = "`sample`: 0 to 255")
    void firstAndLastSample() {
        TrackArray x = noisyTwo();
        c.due("the first of 0", x.sample(0, 0), ONE[0]);
        c.due("the last of 0", x.sample(0, 255), ONE[255]);
        c.due("the first of 1", x.sample(1, 0), OTHER[0]);
        c.due("the last of 1", x.sample(1, 255), OTHER[255]);
    }

    @Says(promise = 17, sentence = "Returns the sample of its record.")
    void sampleOfTheRecord() {
        TrackArray x = Scenes.tone(8, -5, 3);
        int[] due = {0, 8, -5, 3, 8, -5, 3, 8};
        for (int n = 0; n < due.length; n++) {
            c.due("sample " + n, x.sample(0, n), due[n]);
        }
    }

    @Says(promise = 17, sentence = "Throws `IndexOutOfBoundsException` if there is no such microphone")
    void sampleOfNoMicrophone() {
        refusesMicrophones((x, microphone) -> x.sample(microphone, 0));
    }

    @Says(promise = 17, sentence = "Throws `IllegalArgumentException` if sample is out of range")
    void sampleOutOfRange() {
        refuses(ILLEGAL, (x, sample) -> x.sample(2, sample), -1, 256, MIN, MAX);
    }

    // ---- promise 18

    @Says(promise = 18, sentence = "Takes a measure of a record.")
    void measureIsOfTheRecord() {
        TrackArray x = Scenes.rich();
        long sum = 0;
        for (int n = 0; n <= 255; n++) {
            sum += x.sample(2, n);
        }
        // whatever the weight, the focus and the cut
        c.due("the sum", x.measureRecord(2, 3, 0, 255), sum);
        x.setWeight(2, 0);
        x.setCut(false);
        x.focusOnDirection(9);
        c.due("the sum then", x.measureRecord(2, 3, 0, 255), sum);
    }

    @Says(promise = 18, sentence = "Measures are taken of a signal (a record or the beam) in a window: "
            + "the times from a first to a last one, 0 to 255.")
    void windowHasItsFirstAndLastTime() {
        TrackArray x = noisyTwo();
        c.due("all", x.measureRecord(0, 0, 0, 255), energy(ONE, 0, 255));
        c.due("one", x.measureRecord(0, 0, 9, 9), energy(ONE, 9, 9));
        c.due("the first", x.measureRecord(0, 0, 0, 0), energy(ONE, 0, 0));
        c.due("the last", x.measureRecord(0, 0, 255, 255), energy(ONE, 255, 255));
        c.due("two", x.measureRecord(1, 0, 9, 10), energy(OTHER, 9, 10));
    }

    @Says(promise = 18, sentence = "0 ENERGY the sum of the squares of the values")
    void energyOfARecord() {
        TrackArray x = Scenes.tone(3, -4, 0);
        c.due("0, 3, -4, 0", x.measureRecord(0, 0, 0, 3), 25);
        c.due("one value", x.measureRecord(0, 0, 2, 2), 16);
        c.due("no sound", x.measureRecord(0, 0, 0, 0), 0);
        c.due("the greatest of one source", Scenes.tone(99).measureRecord(0, 0, 1, 255), 255 * 9801);
    }

    @Says(promise = 18, sentence = "1 PEAK the greatest absolute value")
    void peakOfARecord() {
        TrackArray x = Scenes.tone(3, -4, 0);
        c.due("0, 3, -4, 0", x.measureRecord(0, 1, 0, 3), 4);
        c.due("0, 3", x.measureRecord(0, 1, 0, 1), 3);
        c.due("-4", x.measureRecord(0, 1, 2, 2), 4);
        c.due("0", x.measureRecord(0, 1, 3, 3), 0);
    }

    @Says(promise = 18, sentence = "2 LEVEL the number of binary digits of the energy;")
    void levelOfARecord() {
        int[] values = {1, -1, 2, 3, 4, -8, 16, 32, 64, 99};
        int[] digits = {1, 1, 3, 4, 5, 7, 9, 11, 13, 14};
        TrackArray x = Scenes.tone(values);
        for (int k = 0; k < values.length; k++) {
            c.due("level of " + values[k], x.measureRecord(0, 2, k + 1, k + 1), digits[k]);
        }
        // 1 + 1 + 4 + 9 is 15, and 16 more is 31
        c.due("level of 15", x.measureRecord(0, 2, 1, 4), 4);
        c.due("level of 31", x.measureRecord(0, 2, 1, 5), 5);
    }

    @Says(promise = 18, sentence = "0 if the energy is 0")
    void levelOfNoEnergy() {
        TrackArray x = Scenes.tone(0, 1);
        c.due("level of one 0", x.measureRecord(0, 2, 1, 1), 0);
        c.due("level of two", x.measureRecord(0, 2, 0, 1), 0);
        c.due("level of one more", x.measureRecord(0, 2, 0, 2), 1);
        c.due("level of silence", silence().measureRecord(0, 2, 0, 255), 0);
    }

    /** A microphone that hears nothing. */
    private static TrackArray silence() {
        TrackArray x = new TrackArray();
        x.addMicrophone(0, 0, 0, 1);
        return x;
    }

    @Says(promise = 18, sentence = "3 SUM the sum of the values")
    void sumOfARecord() {
        TrackArray x = Scenes.tone(3, -4, 0);
        c.due("0, 3, -4, 0", x.measureRecord(0, 3, 0, 3), -1);
        c.due("3, -4", x.measureRecord(0, 3, 1, 2), -1);
        c.due("-4", x.measureRecord(0, 3, 2, 2), -4);
        c.due("all", x.measureRecord(0, 3, 0, 255), 85 * -1);
    }

    @Says(promise = 18, sentence = "4 CROSSINGS the number of times in the window, the first one excluded,")
    void crossingsWithoutTheFirstTime() {
        TrackArray x = Scenes.tone(3, -4);
        c.due("a window of one time", x.measureRecord(0, 4, 2, 2), 0);
        c.due("a window of the first time", x.measureRecord(0, 4, 0, 0), 0);
        c.due("a window of two times", x.measureRecord(0, 4, 1, 2), 1);
        c.due("a window that a crossing is before", x.measureRecord(0, 4, 1, 3), 2);
        c.due("all", x.measureRecord(0, 4, 0, 255), 255);
    }

    @Says(promise = 18, sentence = "at which the value has another sign (-1, 0, 1) than the value before it")
    void crossingsOfSigns() {
        TrackArray x = Scenes.tone(5, 9, 0, 0, -4, -7, 3, 0, -1);
        // 0, 5, 9, 0, 0, -4, -7, 3, 0, -1, 5
        int[] due = {0, 1, 1, 2, 2, 3, 3, 4, 5, 6, 7};
        for (int last = 0; last < due.length; last++) {
            c.due("up to " + last, x.measureRecord(0, 4, 0, last), due[last]);
        }
    }

    @Says(promise = 18, sentence = "`microphone`: a microphone")
    void measuresOfFirstAndLast() {
        TrackArray x = Scenes.crammed();
        for (int microphone = 0; microphone < 8; microphone += 7) {
            long sum = 0;
            for (int n = 0; n <= 49; n++) {
                long sample = x.sample(microphone, n);
                sum += sample * sample;
            }
            c.due("the energy of " + microphone, x.measureRecord(microphone, 0, 0, 49), sum);
        }
    }

    @Says(promise = 18, sentence = "`measure`: 0 to 4")
    void eachMeasureOfARecord() {
        TrackArray x = Scenes.tone(3, -4, 2);
        // 0, 3, -4, 2, 3
        int[] due = {38, 4, 6, 4, 3};
        for (int measure = 0; measure <= 4; measure++) {
            c.due("measure " + measure, x.measureRecord(0, measure, 0, 4), due[measure]);
        }
    }

    @Says(promise = 18, sentence = "`first`: the first time of the window")
    void firstTimeOfARecord() {
        TrackArray x = noisyTwo();
        firstTimes((first, last) -> x.measureRecord(0, 0, first, last), (first, last) -> energy(ONE, first, last));
        firstTimes((first, last) -> x.measureRecord(1, 1, first, last), (first, last) -> peak(OTHER, first, last));
    }

    @Says(promise = 18, sentence = "`last`: the last time of the window")
    void lastTimeOfARecord() {
        TrackArray x = noisyTwo();
        lastTimes((first, last) -> x.measureRecord(0, 0, first, last), (first, last) -> energy(ONE, first, last));
        lastTimes((first, last) -> x.measureRecord(1, 1, first, last), (first, last) -> peak(OTHER, first, last));
    }

    @Says(promise = 18, sentence = "Returns the measure.")
    void measureOfARecord() {
        TrackArray x = noisyTwo();
        long energy = energy(OTHER, 17, 200);
        c.due("energy", x.measureRecord(1, 0, 17, 200), energy);
        c.due("peak", x.measureRecord(1, 1, 17, 200), peak(OTHER, 17, 200));
        c.due("level", x.measureRecord(1, 2, 17, 200), Long.toBinaryString(energy).length());
        c.due("sum", x.measureRecord(1, 3, 17, 200), Arrays.stream(OTHER, 17, 201).sum());
    }

    @Says(promise = 18, sentence = "Throws `IndexOutOfBoundsException` if there is no such microphone")
    void measureOfNoMicrophone() {
        refusesMicrophones((x, microphone) -> x.measureRecord(microphone, 0, 0, 255));
    }

    @Says(promise = 18, sentence = "Throws `IllegalArgumentException` if measure or the window is out of range")
    void measureOfARecordOutOfRange() {
        refuses(ILLEGAL, (x, measure) -> x.measureRecord(2, measure, 0, 255), -1, 5, MIN, MAX);
        refusesWindows((x, first, last) -> x.measureRecord(2, 4, first, last));
    }

    // ---- promise 19

    @Says(promise = 19, sentence = "`first`: the first time of the window")
    void firstTimeOfTheLoudest() {
        TrackArray x = Scenes.recorded();
        // 0, 10, -6, 10 .. and 0, 0, 10, -6 ..
        c.due("from 0 to 2", x.loudestMicrophone(0, 2), 0);
        c.due("from 1 to 2", x.loudestMicrophone(1, 2), 0);
        c.due("from 2 to 2", x.loudestMicrophone(2, 2), 1);
        c.due("from 254 to 254", x.loudestMicrophone(254, 254), 1);
        c.due("from 255 to 255", x.loudestMicrophone(255, 255), 0);
    }

    @Says(promise = 19, sentence = "`last`: the last time of the window")
    void lastTimeOfTheLoudest() {
        TrackArray x = Scenes.recorded();
        c.due("from 0 to 0", x.loudestMicrophone(0, 0), 0);
        c.due("from 2 to 2", x.loudestMicrophone(2, 2), 1);
        c.due("from 2 to 3", x.loudestMicrophone(2, 3), 0);
        c.due("from 2 to 4", x.loudestMicrophone(2, 4), 1);
        c.due("from 2 to 254", x.loudestMicrophone(2, 254), 1);
        c.due("from 2 to 255", x.loudestMicrophone(2, 255), 0);
    }

    @Says(promise = 19, sentence = "Returns the microphone whose record has the greatest energy in the window,")
    void loudestMicrophone() {
        TrackArray x = noisyTwo();
        for (int first = 0; first < 255; first++) {
            int due = energy(OTHER, first, first + 1) > energy(ONE, first, first + 1) ? 1 : 0;
            c.due("from " + first + " on", x.loudestMicrophone(first, first + 1), due);
        }
        x.setWeight(0, 0);
        c.due("whatever the weight", x.loudestMicrophone(0, 255), energy(OTHER, 0, 255) > energy(ONE, 0, 255) ? 1 : 0);
    }

    @Says(promise = 19, sentence = "of several the lowest one;")
    void lowestOfTheLoudest() {
        TrackArray x = new TrackArray();
        x.setSound(100);
        x.addVehicle(0, 0, 100);
        x.addSource(0, 0, 0, 1, 9);
        x.addMicrophone(0, -100, 0, 1);
        x.addMicrophone(0, 0, 0, 1);
        x.addMicrophone(0, 0, 0, 1);
        c.due("of silence", x.loudestMicrophone(0, 255), 0);
        x.makeRecording();
        c.due("of two that are louder than the first", x.loudestMicrophone(0, 255), 1);
        c.due("of three that are alike", x.loudestMicrophone(2, 255), 0);
    }

    @Says(promise = 19, sentence = "NONE if there are no microphones.")
    void loudestOfNoMicrophones() {
        c.due("of none", new TrackArray().loudestMicrophone(0, 255), TrackArray.NONE);
        TrackArray x = Scenes.full();
        Checks.loadText(x, "vehicle 0 0 100;");
        c.due("of none any more", x.loudestMicrophone(0, 255), TrackArray.NONE);
        x.addMicrophone(0, 0, 0, 1);
        c.due("of one that hears nothing", x.loudestMicrophone(0, 255), 0);
    }

    @Says(promise = 19, sentence = "Throws `IllegalArgumentException` if the window is out of range")
    void loudestMicrophoneOutOfWindow() {
        refusesWindows((x, first, last) -> x.loudestMicrophone(first, last));
        refuses(ILLEGAL, TrackArray::new, x -> x.loudestMicrophone(1, 0), x -> x.loudestMicrophone(0, 256));
    }

    // ---- promise 20

    @Says(promise = 20, sentence = "Finds the loudest part of a record.")
    void loudestPart() {
        TrackArray x = Scenes.tone(1, 2, 9, 8, 7, 3, 1, 0, -1, 0, 1, 2, 1, 0, 1, 0);
        // 9, 8, 7 at 3, 4, 5, and again 16 later
        c.due("a width of 3", x.loudestWindow(0, 3), 3);
        c.due("a width of 5", x.loudestWindow(0, 5), 2);
    }

    @Says(promise = 20, sentence = "`microphone`: a microphone")
    void loudestPartOfFirstAndLast() {
        TrackArray x = new TrackArray();
        x.setSound(100);
        x.addVehicle(-5000, 50, 100);
        x.addSource(0, 0, 0, 10, 99);
        for (int k = 0; k < 8; k++) {
            x.addMicrophone(1000 * k - 5000, 0, 0, 1);
        }
        x.setSpreading(true);
        x.makeRecording();
        // 100 beside the vehicle at the times 0 and 140
        c.due("the loudest sample of 0", x.loudestWindow(0, 1), 1);
        c.due("the loudest sample of 7", x.loudestWindow(7, 1), 141);
    }

    @Says(promise = 20, sentence = "`width`: the number of times in a window, 1 to 256")
    void leastAndGreatestWidth() {
        TrackArray x = Scenes.noisy(31, 99);
        int loudest = 0;
        for (int n = 1; n <= 255; n++) {
            loudest = Math.abs(ONE[n]) > Math.abs(ONE[loudest]) ? n : loudest;
        }
        c.due("a width of 1", x.loudestWindow(0, 1), loudest);
        c.due("a width of 255", x.loudestWindow(0, 255), Math.abs(ONE[255]) > Math.abs(ONE[0]) ? 1 : 0);
        c.due("a width of 256", x.loudestWindow(0, 256), 0);
    }

    @Says(promise = 20, sentence = "Returns the first time of the window of this width with the greatest energy,")
    void firstTimeOfTheLoudestWindow() {
        TrackArray x = Scenes.noisy(31, 99);
        for (int width = 1; width <= 256; width++) {
            int due = 0;
            for (int first = 0; first + width - 1 <= 255; first++) {
                due = energy(ONE, first, first + width - 1) > energy(ONE, due, due + width - 1) ? first : due;
            }
            c.due("a width of " + width, x.loudestWindow(0, width), due);
        }
        TrackArray late = new TrackArray();
        late.setSound(100);
        late.addVehicle(0, 0, 5000);
        late.addSource(0, 0, 0, 1, 1);
        late.addMicrophone(0, 0, 0, 1);
        late.makeRecording();
        c.due("the last window of 206", late.loudestWindow(0, 206), 50);
        c.due("the last window of 207", late.loudestWindow(0, 207), 49);
    }

    @Says(promise = 20, sentence = "of several the earliest one.")
    void earliestOfTheLoudestWindows() {
        c.due("of silence", silence().loudestWindow(0, 10), 0);
        TrackArray x = Scenes.tone(7, -7, 0);
        c.due("of many alike", x.loudestWindow(0, 1), 1);
        c.due("of many of two", x.loudestWindow(0, 2), 1);
        c.due("of many of 254", x.loudestWindow(0, 254), 1);
    }

    @Says(promise = 20, sentence = "Throws `IndexOutOfBoundsException` if there is no such microphone")
    void loudestPartOfNoMicrophone() {
        refusesMicrophones((x, microphone) -> x.loudestWindow(microphone, 1));
    }

    @Says(promise = 20, sentence = "Throws `IllegalArgumentException` if width is out of range")
    void widthOutOfRange() {
        refuses(ILLEGAL, (x, width) -> x.loudestWindow(2, width), 0, -1, 257, MIN, MAX);
    }

    // ---- promise 21

    private static long products(int[] one, int[] other, int lag) {
        long sum = 0;
        for (int n = 0; n <= 255; n++) {
            if (n + lag >= 0 && n + lag <= 255) {
                sum += (long) one[n] * other[n + lag];
            }
        }
        return sum;
    }

    @Says(promise = 21, sentence = "Compares two records.")
    void recordsAreCompared() {
        TrackArray x = Scenes.recorded();
        // the other one is a sample later: 127 times each of 100 and 36
        c.due("one sample later", x.correlation(0, 1, 1), 127 * 136);
        c.due("at the same time", x.correlation(0, 1, 0), 254 * -60);
    }

    @Says(promise = 21, sentence = "`microphone`: a microphone")
    void firstAndLastToCompare() {
        TrackArray x = Scenes.crammed();
        long sum = 0;
        for (int n = 0; n <= 100; n++) {
            sum += (long) x.sample(7, n) * x.sample(3, n + 155);
        }
        c.due("the microphone 7", x.correlation(7, 3, 155), sum);
        c.due("the microphone 0", x.correlation(0, 3, 155) == sum, false);
    }

    @Says(promise = 21, sentence = "`other`: a microphone")
    void firstAndLastToCompareWith() {
        TrackArray x = Scenes.crammed();
        long sum = 0;
        for (int n = 0; n <= 100; n++) {
            sum += (long) x.sample(3, n) * x.sample(7, n + 155);
        }
        c.due("the other 7", x.correlation(3, 7, 155), sum);
        c.due("the other 0", x.correlation(3, 0, 155) == sum, false);
        c.due("with itself", x.correlation(3, 3, 0), x.measureRecord(3, 0, 0, 255));
    }

    @Says(promise = 21, sentence = "`lag`: -255 to 255")
    void leastAndGreatestLag() {
        TrackArray x = noisyTwo();
        c.due("-255", x.correlation(0, 1, -255), (long) ONE[255] * OTHER[0]);
        c.due("255", x.correlation(0, 1, 255), (long) ONE[0] * OTHER[255]);
        c.due("254", x.correlation(0, 1, 254), (long) ONE[0] * OTHER[254] + (long) ONE[1] * OTHER[255]);
    }

    @Says(promise = 21, sentence = "Returns the sum of the products sample n of the one times sample n + lag "
            + "of the other, over all n for which both exist.")
    void sumOfTheProducts() {
        TrackArray x = noisyTwo();
        TrackArray y = noisyTwo();
        for (int lag = 0; lag <= 255; lag++) {
            c.due("lag " + lag, x.correlation(0, 1, lag), products(ONE, OTHER, lag));
            c.due("lag " + -lag, y.correlation(0, 1, -lag), products(ONE, OTHER, -lag));
        }
    }

    @Says(promise = 21, sentence = "Throws `IndexOutOfBoundsException` if there is no such microphone")
    void correlationOfNoMicrophone() {
        refusesMicrophones((x, microphone) -> x.correlation(microphone, 0, 0));
        refusesMicrophones((x, other) -> x.correlation(0, other, 0));
        refusesMicrophones((x, both) -> x.correlation(both, both, 0));
    }

    @Says(promise = 21, sentence = "Throws `IllegalArgumentException` if lag is out of range")
    void lagOutOfRange() {
        refuses(ILLEGAL, (x, lag) -> x.correlation(0, 2, lag), -256, 256, MIN, MAX);
    }

    // ---- promise 22

    /** The microphone 0 hears 3 values in its last 3 samples, the microphone 1 the first of them in its last one. */
    private static TrackArray late(int first, int second, int third) {
        TrackArray x = new TrackArray();
        x.setSound(100);
        x.addVehicle(20000, 0, 100);
        x.addSource(0, 499, 0, 1, first);
        x.addValue(0, second);
        x.addValue(0, third);
        x.addMicrophone(-4750, 0, 0, 1);
        x.addMicrophone(-5000, 0, 0, 1);
        x.makeRecording();
        return x;
    }

    @Says(promise = 22, sentence = "`microphone`: a microphone")
    void bestLagOfFirstAndLast() {
        TrackArray x = shifted();
        c.due("of 0 with 3", x.bestLag(0, 3, 15), 3);
        c.due("of 7 with 3", x.bestLag(7, 3, 15), -4);
    }

    @Says(promise = 22, sentence = "`other`: a microphone")
    void bestLagWithFirstAndLast() {
        TrackArray x = shifted();
        c.due("of 3 with 0", x.bestLag(3, 0, 15), -3);
        c.due("of 3 with 7", x.bestLag(3, 7, 15), 4);
        c.due("of 3 with itself", x.bestLag(3, 3, 255), 0);
    }

    /** What eight microphones hear comes a sample later to each, and is a pulse of 16 samples. */
    private static TrackArray shifted() {
        TrackArray x = new TrackArray();
        x.setSound(100);
        x.addVehicle(-20000, 0, 100);
        x.addSource(0, 0, 0, 1, 50);
        for (int k = 1; k < 16; k++) {
            x.addValue(0, 0);
        }
        for (int k = 0; k < 8; k++) {
            x.addMicrophone(-5000 + 100 * k, 0, 0, 1);
        }
        x.makeRecording();
        return x;
    }

    @Says(promise = 22, sentence = "`greatest`: 0 to 255")
    void leastAndGreatestOfTheLags() {
        TrackArray x = late(3, 1, 1);
        // the correlations of the lags 0, 1, 2: 3, 3, 9
        c.due("0", x.bestLag(0, 1, 0), 0);
        c.due("1", x.bestLag(0, 1, 1), 0);
        c.due("2", x.bestLag(0, 1, 2), 2);
        c.due("255", x.bestLag(0, 1, 255), 2);
        c.due("255 in noise", noisyTwo().bestLag(0, 1, 255), bestOf(255));
    }

    private static int bestOf(int greatest) {
        int best = 0;
        for (int lag = 1; lag <= greatest; lag++) {
            best = products(ONE, OTHER, -lag) > products(ONE, OTHER, best) ? -lag : best;
            best = products(ONE, OTHER, lag) > products(ONE, OTHER, best) ? lag : best;
        }
        return best;
    }

    @Says(promise = 22, sentence = "Returns the lag from -greatest to greatest with the greatest correlation;")
    void lagWithTheGreatestCorrelation() {
        TrackArray x = noisyTwo();
        for (int greatest = 0; greatest <= 255; greatest += 5) {
            c.due("up to " + greatest, x.bestLag(0, 1, greatest), bestOf(greatest));
        }
        TrackArray y = late(3, 1, 1);
        c.due("2, just not reached", y.bestLag(0, 1, 1), 0);
        c.due("2, just reached", y.bestLag(0, 1, 2), 2);
        c.due("-2, just not reached", y.bestLag(1, 0, 1), 0);
        c.due("-2, just reached", y.bestLag(1, 0, 2), -2);
        TrackArray z = late(3, -1, -1);
        c.due("all below 0 up to 0", z.bestLag(0, 1, 0), 0);
        c.due("0 is more than what is below it", z.bestLag(0, 1, 1), -1);
    }

    @Says(promise = 22, sentence = "of several the one with the least absolute value,")
    void leastOfTheBestLags() {
        TrackArray x = late(2, 2, 1);
        // the correlations of the lags 0, 1, 2: 2, 4, 4
        c.due("1 before 2", x.bestLag(0, 1, 255), 1);
        c.due("-1 before -2", x.bestLag(1, 0, 255), -1);
        TrackArray y = late(2, 1, 2);
        // 4, 2, 4
        c.due("0 before 2", y.bestLag(0, 1, 255), 0);
        c.due("0 before -2", y.bestLag(1, 0, 255), 0);
        c.due("of silence", late(0, 0, 0).bestLag(0, 1, 255), 0);
    }

    @Says(promise = 22, sentence = "then the negative one.")
    void negativeOfTheBestLags() {
        // -1 and 1 find 127 products each of 1, 0, 1, 0 .. and the same a sample later
        TrackArray x = new TrackArray();
        x.setSound(100);
        x.addVehicle(0, 0, 100);
        x.addSource(0, 0, 0, 1, 1);
        x.addValue(0, 0);
        x.addMicrophone(0, 0, 0, 1);
        x.addMicrophone(0, -100, 0, 1);
        x.makeRecording();
        c.due("as good", x.correlation(0, 1, -1), x.correlation(0, 1, 1));
        c.due("the best up to 1", x.bestLag(0, 1, 1), -1);
        c.due("the best up to 255", x.bestLag(0, 1, 255), -1);
        c.due("the best the other way", x.bestLag(1, 0, 255), -1);
        // the correlations of the lags -1, 0, 1: 0, -1, 0
        TrackArray y = late(-1, 0, 1);
        c.due("the best of -1, 0, 1", y.bestLag(0, 1, 1), -1);
    }

    @Says(promise = 22, sentence = "Throws `IndexOutOfBoundsException` if there is no such microphone")
    void bestLagOfNoMicrophone() {
        refusesMicrophones((x, microphone) -> x.bestLag(microphone, 0, 0));
        refusesMicrophones((x, other) -> x.bestLag(0, other, 0));
        refusesMicrophones((x, both) -> x.bestLag(both, both, 0));
    }

    @Says(promise = 22, sentence = "Throws `IllegalArgumentException` if greatest is out of range")
    void greatestLagOutOfRange() {
        refuses(ILLEGAL, (x, greatest) -> x.bestLag(0, 2, greatest), -1, 256, MIN, MAX);
    }
}
