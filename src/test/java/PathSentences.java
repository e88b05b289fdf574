/** Sentences of the promises 12 to 15, and of PLACES AND TIMES and PATHS that belong to them. */
final class PathSentences extends Sentences {

    // ---- promise 12

    /** Two sources: 3, 3, .. and 20, -8, 0, 20, .. */
    private static TrackArray two() {
        TrackArray x = new TrackArray();
        x.addVehicle(0, 0, 100);
        x.addSource(0, 0, 0, 1, 3);
        x.addSource(0, 0, 0, 4, 5);
        x.addValue(1, -2);
        x.addValue(1, 0);
        return x;
    }

    @Says(promise = 12, sentence = "Times are samples 0 to 255.")
    void timesAre0To255() {
        TrackArray x = two();
        c.due("emitted(1, 0)", x.emitted(1, 0), 20);
        c.due("emitted(1, 255)", x.emitted(1, 255), 20);
        c.illegal("emitted(1, 256)", () -> x.emitted(1, 256));
        c.illegal("emitted(1, -1)", () -> x.emitted(1, -1));
        x.addMicrophone(0, 0, 0, 1);
        c.due("the last sample", x.sample(0, 255), 0);
        c.due("the beam at 255", x.beam(255), 0);
        c.illegal("the sample 256", () -> x.sample(0, 256));
        c.illegal("the beam at 256", () -> x.beam(256));
    }

    @Says(promise = 12, sentence = "`source`: a source")
    void firstAndLastSourceThatEmits() {
        TrackArray x = Scenes.full();
        for (int source = 0; source < 6; source++) {
            c.due("emitted(" + source + ", 0)", x.emitted(source, 0), source);
        }
    }

    @Says(promise = 12, sentence = "`time`: 0 to 255")
    void firstAndLastTimeOfEmission() {
        TrackArray x = two();
        c.due("at 0", x.emitted(1, 0), 20);
        c.due("at 1", x.emitted(1, 1), -8);
        c.due("at 254", x.emitted(1, 254), 0);
        c.due("at 255", x.emitted(1, 255), 20);
    }

    @Says(promise = 12, sentence = "Returns the value that it emits at this time.")
    void valueThatIsEmitted() {
        TrackArray x = two();
        int[] due = {20, -8, 0};
        for (int time = 0; time <= 255; time++) {
            c.due("emitted(1, " + time + ")", x.emitted(1, time), due[time % 3]);
        }
    }

    @Says(promise = 12, sentence = "At the time t it emits the value of the pattern with the index t modulo "
            + "the length of the pattern, times its strength.")
    void valueAtTheIndexModuloTheLength() {
        for (int length : new int[] {1, 2, 15, 16}) {
            TrackArray x = new TrackArray();
            x.addVehicle(0, 0, 100);
            x.addSource(0, 0, 0, 7, 10);
            for (int k = 1; k < length; k++) {
                x.addValue(0, 10 - 3 * k);
            }
            for (int time = 0; time <= 255; time++) {
                c.due("emitted(0, " + time + ") of " + length, x.emitted(0, time), 7 * (10 - 3 * (time % length)));
            }
        }
    }

    @Says(promise = 16, sentence = "Before time 0 and after time 255, nothing is emitted.")
    void nothingBeforeTime0() {
        TrackArray x = new TrackArray();
        x.setSound(100);
        x.addVehicle(0, 0, 5000);
        x.addSource(0, 0, 0, 1, 8);
        x.addMicrophone(0, 0, 0, 1);
        x.makeRecording();
        c.due("the samples 0 to 49", x.measureRecord(0, 1, 0, 49), 0);
        c.due("the sample 50 is of the time 0", x.sample(0, 50), 8);
        c.illegal("emitted at -1", () -> x.emitted(0, -1));
    }

    @Says(promise = 12, sentence = "Before time 0 and after time 255, nothing is emitted.")
    void nothingAfterTime255() {
        TrackArray x = two();
        c.illegal("emitted at 256", () -> x.emitted(0, 256));
        x.setSound(1000);
        x.addMicrophone(0, 99, 0, 1);
        c.due("the latest time that is heard", x.emissionTime(0, 0, 255, false), 254);
    }

    @Says(promise = 12, sentence = "Throws `IndexOutOfBoundsException` if there is no such source")
    void emittedOfNoSource() {
        refusesSources((x, source) -> x.emitted(source, 0));
    }

    @Says(promise = 12, sentence = "Throws `IllegalArgumentException` if time is out of range")
    void emittedOutOfTime() {
        refuses(ILLEGAL, (x, time) -> x.emitted(1, time), -1, 256, MIN, MAX);
    }

    // ---- promise 13

    @Says(promise = 13, sentence = "Places are in centimeters: x along the track, y across it, and the height.")
    void placesAreXAndYAndHeight() {
        TrackArray x = new TrackArray();
        x.addVehicle(0, 5, 100);
        x.addSource(0, 0, 100, 1, 1);
        x.addMicrophone(0, 0, 100, 1);
        x.addMicrophone(75, 0, 100, 1);
        x.addMicrophone(0, 25, 100, 1);
        x.addMicrophone(0, 0, 25, 1);
        c.due("100 across", x.distance(0, 0, 0, false), 100);
        c.due("75 along too", x.distance(1, 0, 0, false), 125);
        c.due("25 less across", x.distance(2, 0, 0, false), 75);
        c.due("75 up too", x.distance(3, 0, 0, false), 125);
        c.due("75 along after a time", x.distance(0, 0, 15, false), 125);
    }

    @Says(promise = 13, sentence = "The distance of two places is the square root of the sum of the squares "
            + "of the three differences, rounded down.")
    void distanceIsRoundedDown() {
        TrackArray x = new TrackArray();
        x.addVehicle(20000, 50, 2744);
        x.addSource(0, 2, 228, 1, 1);
        x.addMicrophone(-5000, 0, 0, 1);
        // 36752 along, 2744 across and 228 up: the sum is 1 less than the square of 36855
        c.due("a little less than 36855", x.distance(0, 0, 235, false), 36854);
        TrackArray y = new TrackArray();
        y.addVehicle(20000, 50, 689);
        y.addSource(0, 28, 400, 1, 1);
        y.addMicrophone(-5000, 0, 276, 1);
        // 35828 along, 689 across and 676 up: the sum is the square of 35841
        c.due("just 35841", y.distance(0, 0, 216, true), 35841);
        TrackArray z = new TrackArray();
        z.addVehicle(2, 0, 100);
        z.addSource(0, 0, 1, 1, 1);
        z.addMicrophone(0, 98, 0, 1);
        z.addMicrophone(0, 98, 1, 1);
        c.due("the root of 9", z.distance(0, 0, 0, false), 3);
        c.due("the root of 8", z.distance(1, 0, 0, false), 2);
    }

    @Says(promise = 13, sentence = "For the reflected path, the place of the source is mirrored at the ground "
            + "(its height is negated).")
    void reflectedPlaceIsMirrored() {
        TrackArray x = new TrackArray();
        x.addVehicle(0, 0, 400);
        x.addSource(0, 0, 100, 1, 1);
        x.addSource(0, 0, 0, 1, 1);
        x.addMicrophone(0, 0, 200, 1);
        x.addMicrophone(0, 0, 0, 1);
        c.due("100 up", x.distance(0, 0, 0, false), 412);
        c.due("300 up", x.distance(0, 0, 0, true), 500);
        c.due("no height of the source: 200 up", x.distance(0, 1, 0, true), 447);
        c.due("no height of the microphone: 100 up", x.distance(1, 0, 0, true), 412);
    }

    /** Six sources 100 apart on a vehicle, and eight microphones 100 apart. */
    private static TrackArray ladder() {
        TrackArray x = new TrackArray();
        x.setSound(100);
        x.addVehicle(0, 0, 100);
        for (int k = 0; k < 6; k++) {
            x.addSource(0, 100 * k, 0, 1, 1);
        }
        for (int k = 0; k < 8; k++) {
            x.addMicrophone(-100 * k, 0, 0, 1);
        }
        return x;
    }

    @Says(promise = 13, sentence = "`microphone`: a microphone")
    void firstAndLastMicrophoneOfADistance() {
        TrackArray x = ladder();
        c.due("of the microphone 0", x.distance(0, 0, 0, false), 100);
        c.due("of the microphone 1", x.distance(1, 0, 0, false), 141);
        c.due("of the microphone 7", x.distance(7, 0, 0, false), 707);
    }

    @Says(promise = 13, sentence = "`source`: a source")
    void firstAndLastSourceOfADistance() {
        TrackArray x = ladder();
        c.due("of the source 0", x.distance(0, 0, 0, false), 100);
        c.due("of the source 1", x.distance(0, 1, 0, false), 141);
        c.due("of the source 5", x.distance(0, 5, 0, false), 509);
    }

    /** It comes from 300 along and goes 10 in a sample. */
    private static TrackArray coming() {
        TrackArray x = new TrackArray();
        x.setSound(100);
        x.addVehicle(-300, 10, 400);
        x.addSource(0, 0, 75, 1, 1);
        x.addMicrophone(0, 0, 75, 1);
        return x;
    }

    @Says(promise = 13, sentence = "`time`: 0 to 255")
    void firstAndLastTimeOfADistance() {
        TrackArray x = coming();
        c.due("at 0", x.distance(0, 0, 0, false), 500);
        // 2250 along: 2285.2
        c.due("at 255", x.distance(0, 0, 255, false), 2285);
    }

    @Says(promise = 13, sentence = "`reflected`: true for the reflected path")
    void reflectedDistance() {
        TrackArray x = coming();
        c.due("direct", x.distance(0, 0, 30, false), 400);
        // 150 up: 427.2
        c.due("reflected", x.distance(0, 0, 30, true), 427);
    }

    @Says(promise = 13, sentence = "Returns the distance at this time.")
    void distanceAtATime() {
        TrackArray x = coming();
        c.due("at 15", x.distance(0, 0, 15, false), 427);
        c.due("at 30", x.distance(0, 0, 30, false), 400);
        c.due("at 45", x.distance(0, 0, 45, false), 427);
        c.due("at 60", x.distance(0, 0, 60, false), 500);
    }

    @Says(promise = 13, sentence = "Throws `IndexOutOfBoundsException` if there is no such microphone or source")
    void distanceOfNothing() {
        refusesMicrophones((x, microphone) -> x.distance(microphone, 0, 0, false));
        refusesSources((x, source) -> x.distance(0, source, 0, true));
        refuses(OUTSIDE, x -> x.distance(3, 2, 0, false), x -> x.distance(-1, -1, 0, true));
    }

    @Says(promise = 13, sentence = "Throws `IllegalArgumentException` if time is out of range")
    void distanceOutOfTime() {
        refuses(ILLEGAL, (x, time) -> x.distance(2, 1, time, false), -1, 256, MIN, MAX);
        refuses(ILLEGAL, (x, time) -> x.distance(2, 1, time, true), -1, 256, MIN, MAX);
    }

    // ---- promise 14

    @Says(promise = 14, sentence = "Sound that is emitted at the time t at a place, whose distance from a microphone "
            + "at this time is d, has the arrival mark t * c + d, with the sound speed c.")
    void arrivalMark() {
        TrackArray x = coming();
        // from 30 on it goes away: at 60 it is 500 away, so that the mark is 6500, and at 61 506 away
        c.due("at 65", x.emissionTime(0, 0, 65, false), 60);
        c.due("at 64", x.emissionTime(0, 0, 64, false), 59);
        x.setSound(125);
        // at 60 the mark is 8000, which is 64 * 125
        c.due("at 64 with a sound of 125", x.emissionTime(0, 0, 64, false), 60);
        c.due("at 63 with a sound of 125", x.emissionTime(0, 0, 63, false), 59);
        x.setSound(501);
        c.due("at 61 with a sound of 501", x.emissionTime(0, 0, 61, false), 60);
    }

    /** Beside the track, 4000 away and coming with half the speed of sound. */
    private static TrackArray fast() {
        TrackArray x = new TrackArray();
        x.setSound(100);
        x.addVehicle(-4000, 50, 100);
        x.addSource(0, 0, 0, 1, 1);
        for (int k = 2; k <= 16; k++) {
            x.addValue(0, k);
        }
        x.addMicrophone(0, 0, 0, 1);
        return x;
    }

    @Says(promise = 14, sentence = "At the sample n a microphone hears from a source what was emitted "
            + "at the latest time t (0 to 255) whose arrival mark is at most n * c")
    void latestTimeIsHeard() {
        TrackArray x = fast();
        // the marks of the times 0, 1, 2, 3, 4: 4001, 4051, 4101, 4151, 4201
        c.due("at 41", x.emissionTime(0, 0, 41, false), 1);
        c.due("at 42", x.emissionTime(0, 0, 42, false), 3);
        // going away the marks of 99, 100, 101 are 10855, 11004, 11154
        c.due("at 110", x.emissionTime(0, 0, 110, false), 99);
        c.due("at 111", x.emissionTime(0, 0, 111, false), 100);
        c.due("at 112", x.emissionTime(0, 0, 112, false), 101);
        c.due("at 113", x.emissionTime(0, 0, 113, false), 101);
    }

    @Says(promise = 16, sentence = "At the sample n a microphone hears from a source what was emitted "
            + "at the latest time t (0 to 255) whose arrival mark is at most n * c")
    void latestTimeIsRecorded() {
        TrackArray x = fast();
        x.makeRecording();
        // the value of the time t is t modulo 16 and 1 more
        c.due("of the time 1", x.sample(0, 41), 2);
        c.due("of the time 3", x.sample(0, 42), 4);
        c.due("of the time 101", x.sample(0, 112), 6);
        c.due("of the time 101 again", x.sample(0, 113), 6);
        c.due("of the time 196", x.sample(0, 255), 5);
    }

    @Says(promise = 14, sentence = "(nothing if there is none).")
    void nothingIsHeardTooEarly() {
        TrackArray x = fast();
        c.due("at 0", x.emissionTime(0, 0, 0, false), -1);
        c.due("at 40", x.emissionTime(0, 0, 40, false), -1);
        c.due("reflected at 40", x.emissionTime(0, 0, 40, true), -1);
        x.setGround(90);
        x.makeRecording();
        c.due("the record up to 40", x.measureRecord(0, 1, 0, 40), 0);
        c.due("the record at 41, with 90 in the hundred of 2", x.sample(0, 41), 3);
    }

    @Says(promise = 14, sentence = "`microphone`: a microphone")
    void firstAndLastMicrophoneThatHears() {
        TrackArray x = ladder();
        c.due("the microphone 0", x.emissionTime(0, 0, 20, false), 19);
        c.due("the microphone 1", x.emissionTime(1, 0, 20, false), 18);
        c.due("the microphone 7", x.emissionTime(7, 0, 20, false), 12);
    }

    @Says(promise = 14, sentence = "`source`: a source")
    void firstAndLastSourceThatIsHeard() {
        TrackArray x = ladder();
        c.due("the source 0", x.emissionTime(0, 0, 20, false), 19);
        c.due("the source 1", x.emissionTime(0, 1, 20, false), 18);
        c.due("the source 5", x.emissionTime(0, 5, 20, false), 14);
    }

    @Says(promise = 14, sentence = "`sample`: 0 to 255")
    void firstAndLastSampleThatIsHeard() {
        TrackArray x = ladder();
        c.due("at 0", x.emissionTime(0, 0, 0, false), -1);
        c.due("at 1", x.emissionTime(0, 0, 1, false), 0);
        c.due("at 255", x.emissionTime(0, 0, 255, false), 254);
    }

    @Says(promise = 14, sentence = "`reflected`: true for the reflected path")
    void reflectedPathIsHeardLater() {
        TrackArray x = Scenes.echoing();
        c.due("direct", x.emissionTime(0, 0, 100, false), 96);
        c.due("reflected", x.emissionTime(0, 0, 100, true), 95);
    }

    @Says(promise = 14, sentence = "Returns the time at which was emitted what the microphone hears at this sample;")
    void timeOfEmission() {
        TrackArray x = Scenes.echoing();
        for (int sample = 4; sample <= 255; sample++) {
            c.due("at " + sample, x.emissionTime(0, 0, sample, false), sample - 4);
        }
        x.setSound(399);
        c.due("one mark is just met by two samples", x.emissionTime(0, 0, 2, false), 0);
        x.setSound(400);
        c.due("a mark is just met", x.emissionTime(0, 0, 1, false), 0);
    }

    @Says(promise = 14, sentence = "NONE if it hears nothing.")
    void noneIfItHearsNothing() {
        TrackArray x = Scenes.echoing();
        c.due("direct at 3", x.emissionTime(0, 0, 3, false), TrackArray.NONE);
        c.due("direct at 4", x.emissionTime(0, 0, 4, false), 0);
        c.due("reflected at 4", x.emissionTime(0, 0, 4, true), TrackArray.NONE);
        c.due("reflected at 5", x.emissionTime(0, 0, 5, true), 0);
        TrackArray far = new TrackArray();
        far.setSound(100);
        far.addVehicle(20000, 50, 100);
        far.addSource(0, 1000, 0, 1, 1);
        far.addMicrophone(-5000, 0, 0, 1);
        c.due("26000 away at 255", far.emissionTime(0, 0, 255, false), TrackArray.NONE);
    }

    @Says(promise = 14, sentence = "Throws `IndexOutOfBoundsException` if there is no such microphone or source")
    void emissionTimeOfNothing() {
        refusesMicrophones((x, microphone) -> x.emissionTime(microphone, 0, 0, false));
        refusesSources((x, source) -> x.emissionTime(0, source, 0, true));
        refuses(OUTSIDE, x -> x.emissionTime(3, 2, 0, false), x -> x.emissionTime(-1, -1, 0, true));
    }

    @Says(promise = 14, sentence = "Throws `IllegalArgumentException` if sample is out of range")
    void emissionTimeOutOfSamples() {
        refuses(ILLEGAL, (x, sample) -> x.emissionTime(2, 1, sample, false), -1, 256, MIN, MAX);
        refuses(ILLEGAL, (x, sample) -> x.emissionTime(2, 1, sample, true), -1, 256, MIN, MAX);
    }

    // ---- promise 15

    /** Vehicles that pass 0 at 10, 20, 30, 40, and microphones at 0, 100, .. 700. */
    private static TrackArray passing() {
        TrackArray x = new TrackArray();
        for (int k = 1; k <= 4; k++) {
            x.addVehicle(-100 * k, 10, 1000 * k);
        }
        for (int k = 0; k < 8; k++) {
            x.addMicrophone(100 * k, 99 - k, 50 * k, 1);
        }
        return x;
    }

    @Says(promise = 15, sentence = "`vehicle`: a vehicle")
    void firstAndLastVehicleThatPasses() {
        TrackArray x = passing();
        c.due("the vehicle 0", x.passTime(0, 0), 10);
        c.due("the vehicle 3", x.passTime(3, 0), 40);
    }

    @Says(promise = 15, sentence = "`microphone`: a microphone")
    void firstAndLastMicrophoneThatIsPassed() {
        TrackArray x = passing();
        c.due("the microphone 0", x.passTime(1, 0), 20);
        c.due("the microphone 7", x.passTime(1, 7), 90);
    }

    private static int passed(int x, int speed, int microphone) {
        TrackArray array = new TrackArray();
        array.addVehicle(x, speed, 100);
        array.addMicrophone(microphone, 0, 0, 1);
        return array.passTime(0, 0);
    }

    @Says(promise = 15, sentence = "Returns the time (0 to 255) at which the x of the vehicle is nearest "
            + "to that of the microphone,")
    void nearestTime() {
        c.due("forward", passed(-100, 7, 0), 14);
        c.due("backward", passed(100, -7, 0), 14);
        c.due("passed before", passed(1, 50, 0), 0);
        c.due("passed before, backward", passed(-1, -50, 0), 0);
        c.due("passed at the last time", passed(-5000, 20, 100), 255);
        c.due("not passed yet", passed(-20000, 50, 5000), 255);
        c.due("not passed yet, backward", passed(20000, -50, -5000), 255);
        c.due("just nearer at 254", passed(-2544, 10, 0), 254);
    }

    @Says(promise = 15, sentence = "of several the earliest one.")
    void earliestOfTheNearest() {
        c.due("standing", passed(77, 0, 0), 0);
        c.due("5 before at 9, 5 behind at 10", passed(-95, 10, 0), 9);
        c.due("5 behind at 9, 5 before at 10", passed(95, -10, 0), 9);
        c.due("1 before at 0, 1 behind at 1", passed(-1, 2, 0), 0);
    }

    @Says(promise = 15, sentence = "Throws `IndexOutOfBoundsException` if there is no such vehicle or microphone")
    void passTimeOfNothing() {
        refusesVehicles((x, vehicle) -> x.passTime(vehicle, 0));
        refusesMicrophones((x, microphone) -> x.passTime(0, microphone));
        refuses(OUTSIDE, x -> x.passTime(2, 3), x -> x.passTime(-1, -1));
    }
}
