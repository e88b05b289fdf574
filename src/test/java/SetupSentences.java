/** Sentences of the promises 1 to 11, and of PLACES AND TIMES that belong to them. */
final class SetupSentences extends Sentences {

    // ---- promise 1

    @Says(promise = 1, sentence = "Creates an array without microphones and vehicles")
    void newArrayHasNoMicrophonesAndVehicles() {
        TrackArray x = new TrackArray();
        c.due("count(0)", x.count(0), 0);
        c.due("count(2)", x.count(2), 0);
        c.outside("sample(0, 0)", () -> x.sample(0, 0));
        c.outside("focusOnVehicle(0, 0, 0)", () -> x.focusOnVehicle(0, 0, 0));
        c.outside("addSource of vehicle 0", () -> x.addSource(0, 0, 0, 1, 1));
        c.due("addMicrophone", x.addMicrophone(0, 0, 0, 1), 0);
        c.due("addVehicle", x.addVehicle(0, 0, 100), 0);
    }

    @Says(promise = 1, sentence = "with an empty text buffer")
    void newArrayHasNoText() {
        TrackArray x = new TrackArray();
        c.illegal("truncateText(1)", () -> x.truncateText(1));
        c.due("truncateText(0)", x.truncateText(0), 0);
        c.due("load()", new TrackArray().load(), 0);
        c.due("appendText", x.appendText(0x20202020), 4);
    }

    @Says(promise = 1, sentence = "and no saved states.")
    void newArrayHasNoSavedStates() {
        TrackArray x = new TrackArray();
        c.refused("restore(0)", () -> x.restore(0));
        c.refused("restore(1)", () -> x.restore(1));
    }

    @Says(promise = 1, sentence = "An object is used for at most 512 calls after it has been made; "
            + "what later calls answer is free.")
    void allOf512CallsAnswer() {
        TrackArray recording = new TrackArray();
        for (int call = 1; call <= 512; call++) {
            c.due("call " + call, recording.makeRecording(), call);
        }
        TrackArray loading = new TrackArray();
        for (int call = 1; call <= 510; call += 2) {
            c.due("call " + call, loading.appendText('m' << 24 | ';' << 16 | ';' << 8 | ';'), 4);
            c.due("call " + (call + 1), loading.load(), -1);
        }
        c.due("call 511", loading.errorPosition(), 0);
        c.due("call 512", loading.errorCode(), 1);
    }

    @Says(promise = 1, sentence = "`NONE = -1`: There is none.")
    void none() {
        c.due("NONE", TrackArray.NONE, -1);
        c.due("loudestMicrophone of none", new TrackArray().loudestMicrophone(0, 0), TrackArray.NONE);
    }

    // ---- promise 2

    @Says(promise = 2, sentence = "Sets the sound speed.")
    void soundIsSet() {
        TrackArray x = atDistance(600);
        x.setSound(300);
        c.due("600 at 300 in a sample", x.sampleNumber(0, 0), 2);
        x.setSound(200);
        c.due("600 at 200 in a sample", x.sampleNumber(0, 0), 3);
    }

    /** A microphone, and a focus that stays in this distance of it. */
    private static TrackArray atDistance(int y) {
        TrackArray x = new TrackArray();
        x.addMicrophone(0, 0, 0, 1);
        x.focusOnPlace(0, y, 0);
        return x;
    }

    @Says(promise = 2, sentence = "`speed`: 100 to 1000")
    void leastAndGreatestSound() {
        TrackArray x = atDistance(2000);
        x.setSound(100);
        c.due("2000 at 100 in a sample", x.sampleNumber(0, 0), 20);
        x.setSound(1000);
        c.due("2000 at 1000 in a sample", x.sampleNumber(0, 0), 2);
        for (int speed = 101; speed < 1000; speed += 7) {
            x.setSound(speed);
            c.due("setSound(" + speed + ") again", x.setSound(speed), speed);
        }
    }

    @Says(promise = 2, sentence = "The sound speed is a number of centimeters per sample (100 to 1000, 340 at first).")
    void soundAtFirst() {
        c.due("340 at first", atDistance(340).sampleNumber(0, 0), 1);
        c.due("341 at first", atDistance(341).sampleNumber(0, 0), 2);
        c.due("setSound at first", new TrackArray().setSound(100), 340);
    }

    @Says(promise = 2, sentence = "Returns the previous one.")
    void previousSound() {
        TrackArray x = new TrackArray();
        c.due("setSound(1000)", x.setSound(1000), 340);
        c.due("setSound(1000) again", x.setSound(1000), 1000);
        c.due("setSound(100)", x.setSound(100), 1000);
        c.illegal("setSound(99)", () -> x.setSound(99));
        c.due("setSound(500) after a refused one", x.setSound(500), 100);
    }

    @Says(promise = 2, sentence = "Throws `IllegalArgumentException` if speed is out of range")
    void soundOutOfRange() {
        refuses(ILLEGAL, (x, speed) -> x.setSound(speed), 99, 1001, 0, -100, -340, MIN, MAX);
    }

    // ---- promise 3

    @Says(promise = 3, sentence = "Sets the ground.")
    void groundIsSet() {
        c.due("a ground of 50", heardFromGround(50), 15);
        c.due("a ground of -50", heardFromGround(-50), 5);
        c.due("a ground of 0", heardFromGround(0), 10);
    }

    /** 10, and 10 times the ground in the hundred. */
    private static int heardFromGround(int percent) {
        TrackArray x = Scenes.echoing();
        x.setGround(percent);
        x.makeRecording();
        return x.sample(0, 5);
    }

    @Says(promise = 3, sentence = "`percent`: -90 to 90")
    void leastAndGreatestGround() {
        c.due("a ground of -90", heardFromGround(-90), 1);
        c.due("a ground of 90", heardFromGround(90), 19);
        TrackArray x = new TrackArray();
        for (int percent = -90; percent <= 90; percent++) {
            x.setGround(percent);
            c.due("setGround(" + percent + ") again", x.setGround(percent), percent);
        }
    }

    @Says(promise = 3, sentence = "Returns the previous one.")
    void previousGround() {
        TrackArray x = new TrackArray();
        c.due("setGround(-90)", x.setGround(-90), 0);
        c.due("setGround(90)", x.setGround(90), -90);
        c.illegal("setGround(91)", () -> x.setGround(91));
        c.due("setGround(90) after a refused one", x.setGround(90), 90);
        c.due("setGround(0)", x.setGround(0), 90);
    }

    @Says(promise = 3, sentence = "Throws `IllegalArgumentException` if percent is out of range")
    void groundOutOfRange() {
        refuses(ILLEGAL, (x, percent) -> x.setGround(percent), -91, 91, -100, 100, MIN, MAX);
    }

    // ---- promise 4

    @Says(promise = 4, sentence = "Switches spreading on or off.")
    void spreadingIsSwitched() {
        TrackArray x = Scenes.plain();
        x.setSpreading(true);
        x.makeRecording();
        c.due("10 over 100, spread", x.sample(0, 1), 9);
        x.setSpreading(false);
        x.makeRecording();
        c.due("10 over 100, not spread", x.sample(0, 1), 10);
    }

    @Says(promise = 4, sentence = "`on`: true for on")
    void trueIsSpreading() {
        TrackArray x = Scenes.plain();
        x.setSpreading(true);
        x.setSpreading(true);
        x.makeRecording();
        c.due("after true twice", x.sample(1, 2), 8);
        x.setSpreading(false);
        x.setSpreading(false);
        x.makeRecording();
        c.due("after false twice", x.sample(1, 2), 10);
    }

    @Says(promise = 4, sentence = "Returns true if it was on.")
    void wasSpreading() {
        TrackArray x = new TrackArray();
        c.due("setSpreading(false) at first", x.setSpreading(false), false);
        c.due("setSpreading(true)", x.setSpreading(true), false);
        c.due("setSpreading(true) again", x.setSpreading(true), true);
        c.due("setSpreading(false)", x.setSpreading(false), true);
        c.due("setSpreading(false) again", x.setSpreading(false), false);
    }

    // ---- promise 5

    @Says(promise = 5, sentence = "Sets the noise.")
    void noiseIsSet() {
        int[] due = Scenes.noise(4711, 12, 256);
        TrackArray x = Scenes.noisy(4711, 12);
        for (int n = 0; n <= 255; n++) {
            c.due("sample " + n, x.sample(0, n), due[n]);
        }
    }

    @Says(promise = 5, sentence = "`seed`: the new state of the random generator, 0 to 2147483647")
    void leastAndGreatestSeed() {
        // 0 becomes 12345, which yields 0
        c.due("the first noise from 0", Scenes.noisy(0, 99).sample(0, 0), -99);
        // 2147483647 becomes 1043980748, which yields 15929 modulo 199
        c.due("the first noise from 2147483647", Scenes.noisy(MAX, 99).sample(0, 0), 9 - 99);
        TrackArray x = Scenes.noisy(5, 70);
        int first = x.sample(0, 0);
        x.setNoise(5, 70);
        x.makeRecording();
        c.due("the first noise from 5 again", x.sample(0, 0), first);
    }

    @Says(promise = 5, sentence = "`level`: 0 to 99")
    void leastAndGreatestLevel() {
        c.due("the peak at level 0", Scenes.noisy(8, 0).measureRecord(0, 1, 0, 255), 0);
        c.due("the peak at level 99", Scenes.noisy(8, 99).measureRecord(0, 1, 0, 255),
                peak(Scenes.noise(8, 99, 256), 0, 255));
        for (int level = 1; level <= 99; level++) {
            c.due("the first noise at level " + level, Scenes.noisy(3, level).sample(0, 0),
                    Scenes.noise(3, level, 1)[0]);
        }
    }

    @Says(promise = 5, sentence = "Throws `IllegalArgumentException` if an argument is out of range")
    void noiseOutOfRange() {
        refuses(ILLEGAL, (x, seed) -> x.setNoise(seed, 5), -1, -2, -77, MIN);
        refuses(ILLEGAL, (x, level) -> x.setNoise(5, level), -1, 100, -8, MIN, MAX);
        refuses(ILLEGAL, (x, both) -> x.setNoise(both, both), -1, MIN);
    }

    // ---- promise 6

    @Says(promise = 6, sentence = "Adds a vehicle.")
    void vehicleIsAdded() {
        TrackArray x = new TrackArray();
        x.addMicrophone(0, 0, 0, 1);
        x.addVehicle(-100, 10, 100);
        c.due("count(0)", x.count(0), 1);
        x.addVehicle(-50, 10, 100);
        c.due("count(0) then", x.count(0), 2);
        c.due("the first passes", x.passTime(0, 0), 10);
        c.due("the second passes", x.passTime(1, 0), 5);
    }

    /** The distance of a source that rides in the middle of a vehicle from a microphone at x. */
    private static int away(int x, int speed, int y, int time, int from) {
        TrackArray array = new TrackArray();
        array.addVehicle(x, speed, y);
        array.addSource(0, 0, 0, 1, 1);
        array.addMicrophone(from, 0, 0, 1);
        return array.distance(0, 0, time, false);
    }

    @Says(promise = 6, sentence = "`x`: -20000 to 20000")
    void leastAndGreatestXOfAVehicle() {
        // 100 across make 0.2 of 25000 and 0.3 of 15000
        c.due("-20000 from 5000", away(-20000, 0, 100, 0, 5000), 25000);
        c.due("-20000 from -5000", away(-20000, 0, 100, 0, -5000), 15000);
        c.due("20000 from 5000", away(20000, 0, 100, 0, 5000), 15000);
        c.due("20000 from -5000", away(20000, 0, 100, 0, -5000), 25000);
    }

    @Says(promise = 6, sentence = "`speed`: -50 to 50")
    void leastAndGreatestSpeed() {
        // 12750 in 255 samples
        c.due("-50 from 5000", away(0, -50, 100, 255, 5000), 17750);
        c.due("-50 from -5000", away(0, -50, 100, 255, -5000), 7750);
        c.due("50 from 5000", away(0, 50, 100, 255, 5000), 7750);
        c.due("50 from -5000", away(0, 50, 100, 255, -5000), 17750);
    }

    @Says(promise = 6, sentence = "`y`: 100 to 5000")
    void leastAndGreatestYOfAVehicle() {
        c.due("100 across", away(0, 0, 100, 9, 0), 100);
        c.due("5000 across", away(0, 0, 5000, 9, 0), 5000);
    }

    @Says(promise = 6, sentence = "A vehicle has an x at the time 0 (-20000 to 20000), "
            + "a speed (-50 to 50 centimeters per sample) and a y (100 to 5000);")
    void vehicleHasXAndSpeedAndY() {
        // 30 along and 400 across: 401.1
        c.due("at the time 0", away(30, 40, 400, 0, 0), 401);
        // 300 along then
        c.due("at the time 8", away(-20, 40, 400, 8, 0), 500);
        TrackArray x = new TrackArray();
        c.due("the least of all", x.addVehicle(-20000, -50, 100), 0);
        c.due("the greatest of all", x.addVehicle(20000, 50, 5000), 1);
    }

    @Says(promise = 6, sentence = "at the time t its x is x + speed * t.")
    void vehicleMoves() {
        c.due("at the time 0", away(300, -10, 400, 0, 0), 500);
        c.due("at the time 30", away(300, -10, 400, 30, 0), 400);
        c.due("at the time 60", away(300, -10, 400, 60, 0), 500);
        // -7250 then, 2250 from the microphone and 100 across: 2252.2
        c.due("at the time 255", away(-20000, 50, 100, 255, -5000), 2252);
        c.due("standing at the time 255", away(300, 0, 400, 255, 0), 500);
    }

    @Says(promise = 6, sentence = "There are at most 4 vehicles, numbered from 0.")
    void fourVehicles() {
        TrackArray x = new TrackArray();
        for (int number = 0; number < 4; number++) {
            c.due("addVehicle", x.addVehicle(0, 0, 100), number);
        }
        c.refused("a fifth one", () -> x.addVehicle(0, 0, 100));
        c.due("count(0)", x.count(0), 4);
    }

    @Says(promise = 6, sentence = "Returns the number of the vehicle.")
    void numberOfTheVehicle() {
        TrackArray x = new TrackArray();
        c.due("the first", x.addVehicle(5, 5, 500), 0);
        c.illegal("a bad one between", () -> x.addVehicle(5, 5, 5));
        c.due("the second", x.addVehicle(5, 5, 500), 1);
        Checks.loadText(x, "vehicle 0 0 100;vehicle 0 0 100;vehicle 0 0 100;");
        c.due("after three of a text", x.addVehicle(5, 5, 500), 3);
    }

    @Says(promise = 6, sentence = "Throws `IllegalArgumentException` if an argument is out of range")
    void vehicleOutOfRange() {
        refuses(ILLEGAL, (x, along) -> x.addVehicle(along, 0, 100), -20001, 20001, MIN, MAX);
        refuses(ILLEGAL, (x, speed) -> x.addVehicle(0, speed, 100), -51, 51, MIN, MAX);
        refuses(ILLEGAL, (x, across) -> x.addVehicle(0, 0, across), 99, 5001, 0, -100, MIN, MAX);
    }

    @Says(promise = 6, sentence = "Throws `IllegalStateException` if there are 4 vehicles")
    void fifthVehicle() {
        refuses(REFUSED, Scenes::crammed, x -> x.addVehicle(0, 0, 100), x -> x.addVehicle(-20000, 50, 5000));
        TrackArray x = Scenes.crammed();
        x.truncateText(0);
        Checks.loadText(x, "vehicle 0 0 100;vehicle 0 0 100;vehicle 0 0 100;");
        c.due("a fourth one after a text", x.addVehicle(0, 0, 100), 3);
        c.refused("a fifth one after a text", () -> x.addVehicle(0, 0, 100));
    }

    // ---- promise 7

    @Says(promise = 7, sentence = "Adds a source.")
    void sourceIsAdded() {
        TrackArray x = new TrackArray();
        x.addVehicle(0, 0, 100);
        c.due("count(1)", x.count(1), 0);
        x.addSource(0, 0, 0, 3, 5);
        c.due("count(1) then", x.count(1), 1);
        c.due("emitted(0, 0)", x.emitted(0, 0), 15);
        x.setSound(100);
        x.addMicrophone(0, 0, 0, 1);
        x.makeRecording();
        c.due("it is heard", x.sample(0, 1), 15);
    }

    /** Vehicles at 0, 1000, 2000, 3000 and 100 across, and a microphone 100 beside the first one. */
    private static TrackArray row() {
        TrackArray x = new TrackArray();
        for (int k = 0; k < 4; k++) {
            x.addVehicle(1000 * k, 0, 100);
        }
        x.addMicrophone(0, 0, 0, 1);
        return x;
    }

    @Says(promise = 7, sentence = "`vehicle`: a vehicle")
    void firstAndLastVehicleOfASource() {
        TrackArray x = row();
        c.due("of the vehicle 0", x.addSource(0, 0, 0, 1, 1), 0);
        c.due("of the vehicle 3", x.addSource(3, 0, 0, 1, 1), 1);
        c.due("the first distance", x.distance(0, 0, 0, false), 100);
        c.due("the last distance", x.distance(0, 1, 0, false), 3001);
    }

    @Says(promise = 7, sentence = "A source belongs to a vehicle;")
    void sourceMovesWithItsVehicle() {
        TrackArray x = new TrackArray();
        x.addVehicle(0, 30, 400);
        x.addVehicle(0, -5, 100);
        x.addMicrophone(0, 0, 0, 1);
        x.addSource(0, 0, 0, 1, 1);
        x.addSource(1, 0, 0, 1, 1);
        c.due("the source of the vehicle 0", x.distance(0, 0, 10, false), 500);
        c.due("the source of the vehicle 1", x.distance(0, 1, 200, false), 1004);
    }

    private static int offAt(int offset, int height) {
        TrackArray x = row();
        x.addSource(1, offset, height, 1, 1);
        return x.distance(0, 0, 77, false);
    }

    @Says(promise = 7, sentence = "`offset`: -1000 to 1000")
    void leastAndGreatestOffset() {
        c.due("-1000 of 1000", offAt(-1000, 0), 100);
        c.due("1000 of 1000", offAt(1000, 0), 2002);
        c.due("0 of 1000", offAt(0, 0), 1004);
    }

    @Says(promise = 7, sentence = "it has an offset (-1000 to 1000, added to the x of the vehicle),")
    void offsetIsAddedToX() {
        TrackArray x = new TrackArray();
        x.addVehicle(-100, 20, 400);
        x.addSource(0, 300, 0, 1, 1);
        x.addMicrophone(0, 0, 0, 1);
        c.due("200 along", x.distance(0, 0, 0, false), 447);
        c.due("300 along", x.distance(0, 0, 5, false), 500);
    }

    @Says(promise = 7, sentence = "`height`: 0 to 500")
    void leastAndGreatestHeightOfASource() {
        c.due("a height of 0", offAt(-1000, 0), 100);
        c.due("a height of 500", offAt(-1000, 500), 509);
    }

    @Says(promise = 7, sentence = "a height (0 to 500),")
    void sourceHasAHeight() {
        c.due("a height of 75", offAt(-1000, 75), 125);
        c.due("a height of 240", offAt(-1000, 240), 260);
    }

    private static TrackArray sounding(int strength, int value) {
        TrackArray x = new TrackArray();
        x.addVehicle(0, 0, 100);
        x.addSource(0, 0, 0, strength, value);
        return x;
    }

    @Says(promise = 7, sentence = "`strength`: 1 to 10")
    void leastAndGreatestStrength() {
        c.due("7 with the strength 1", sounding(1, 7).emitted(0, 0), 7);
        c.due("7 with the strength 10", sounding(10, 7).emitted(0, 0), 70);
    }

    @Says(promise = 7, sentence = "a strength (1 to 10),")
    void sourceHasAStrength() {
        for (int strength = 1; strength <= 10; strength++) {
            c.due("emitted with " + strength, sounding(strength, -9).emitted(0, 255), -9 * strength);
        }
    }

    @Says(promise = 7, sentence = "`value`: the only value of its pattern, -99 to 99")
    void onlyValueOfASource() {
        c.due("-99", sounding(1, -99).emitted(0, 0), -99);
        c.due("99", sounding(1, 99).emitted(0, 0), 99);
        TrackArray x = sounding(1, 5);
        for (int time = 0; time <= 255; time++) {
            c.due("emitted(0, " + time + ")", x.emitted(0, time), 5);
        }
        c.due("the pattern's length with one more", x.addValue(0, 1), 2);
    }

    @Says(promise = 7, sentence = "and a pattern of 1 to 16 values (-99 to 99).")
    void patternOf1To16Values() {
        TrackArray x = sounding(1, -99);
        c.due("the only value at 1", x.emitted(0, 1), -99);
        for (int length = 2; length <= 16; length++) {
            c.due("addValue", x.addValue(0, length == 16 ? 99 : length), length);
        }
        c.due("the first value", x.emitted(0, 0), -99);
        c.due("the 16th value", x.emitted(0, 15), 99);
        c.refused("a 17th value", () -> x.addValue(0, 1));
    }

    @Says(promise = 7, sentence = "Returns the number of the source.")
    void numberOfTheSource() {
        TrackArray x = row();
        for (int number = 0; number < 6; number++) {
            c.due("addSource", x.addSource(number % 4, number, number, 1 + number, number), number);
        }
        for (int number = 0; number < 6; number++) {
            c.due("emitted(" + number + ", 0)", x.emitted(number, 0), (1 + number) * number);
        }
        Checks.loadText(x, "vehicle 0 0 100;source 0 0 0 1 1;source 0 0 0 1 1;");
        c.due("after two of a text", x.addSource(0, 0, 0, 1, 1), 2);
    }

    @Says(promise = 7, sentence = "There are at most 6 sources, numbered from 0.")
    void sixSources() {
        TrackArray x = row();
        for (int number = 0; number < 6; number++) {
            c.due("addSource", x.addSource(0, 0, 0, 1, 1), number);
        }
        c.refused("a seventh one of the vehicle 0", () -> x.addSource(0, 0, 0, 1, 1));
        c.refused("a seventh one of the vehicle 3", () -> x.addSource(3, 0, 0, 1, 1));
        c.due("count(1)", x.count(1), 6);
    }

    @Says(promise = 7, sentence = "Throws `IndexOutOfBoundsException` if there is no such vehicle")
    void sourceOfNoVehicle() {
        refusesVehicles((x, vehicle) -> x.addSource(vehicle, 0, 0, 1, 1));
    }

    @Says(promise = 7, sentence = "Throws `IllegalArgumentException` if another argument is out of range")
    void sourceOutOfRange() {
        refuses(ILLEGAL, (x, offset) -> x.addSource(1, offset, 0, 1, 1), -1001, 1001, MIN, MAX);
        refuses(ILLEGAL, (x, height) -> x.addSource(1, 0, height, 1, 1), -1, 501, MIN, MAX);
        refuses(ILLEGAL, (x, strength) -> x.addSource(1, 0, 0, strength, 1), 0, 11, -1, MIN, MAX);
        refuses(ILLEGAL, (x, value) -> x.addSource(1, 0, 0, 1, value), -100, 100, MIN, MAX);
    }

    @Says(promise = 7, sentence = "Throws `IllegalStateException` if there are 6 sources")
    void seventhSource() {
        refuses(REFUSED, Scenes::crammed, x -> x.addSource(0, 0, 0, 1, 1), x -> x.addSource(3, 1000, 500, 10, -99));
    }

    // ---- promise 8

    @Says(promise = 8, sentence = "Adds a value at the end of a pattern.")
    void valueIsAddedAtTheEnd() {
        TrackArray x = sounding(2, 5);
        x.addValue(0, -3);
        x.addValue(0, 8);
        int[] due = {10, -6, 16, 10, -6, 16};
        for (int time = 0; time < due.length; time++) {
            c.due("emitted(0, " + time + ")", x.emitted(0, time), due[time]);
        }
    }

    @Says(promise = 8, sentence = "`source`: a source")
    void firstAndLastSourceOfAValue() {
        TrackArray x = Scenes.full();
        c.due("addValue(0, 11)", x.addValue(0, 11), 2);
        c.due("addValue(5, 55)", x.addValue(5, 55), 2);
        for (int source = 0; source < 6; source++) {
            int due = source == 0 ? 11 : source == 5 ? 55 : source;
            c.due("emitted(" + source + ", 1)", x.emitted(source, 1), due);
        }
    }

    @Says(promise = 8, sentence = "`value`: -99 to 99")
    void leastAndGreatestValue() {
        TrackArray x = sounding(10, 0);
        x.addValue(0, -99);
        x.addValue(0, 99);
        c.due("-99", x.emitted(0, 1), -990);
        c.due("99", x.emitted(0, 2), 990);
    }

    @Says(promise = 8, sentence = "Returns the length of the pattern then.")
    void lengthOfThePattern() {
        TrackArray x = sounding(1, 0);
        x.addSource(0, 0, 0, 1, 7);
        for (int length = 2; length <= 16; length++) {
            c.due("addValue of 0", x.addValue(0, 0), length);
        }
        c.due("addValue of the other source", x.addValue(1, 0), 2);
    }

    @Says(promise = 8, sentence = "Throws `IndexOutOfBoundsException` if there is no such source")
    void valueOfNoSource() {
        refusesSources((x, source) -> x.addValue(source, 1));
    }

    @Says(promise = 8, sentence = "Throws `IllegalArgumentException` if value is out of range")
    void valueOutOfRange() {
        refuses(ILLEGAL, (x, value) -> x.addValue(1, value), -100, 100, MIN, MAX);
    }

    @Says(promise = 8, sentence = "Throws `IllegalStateException` if the pattern has 16 values")
    void seventeenthValue() {
        refuses(REFUSED, Scenes::crammed, x -> x.addValue(0, 1), x -> x.addValue(0, -99), x -> x.addValue(0, 99));
        TrackArray x = Scenes.crammed();
        c.refused("of the source 0", () -> x.addValue(0, 1));
        c.due("of the source 1", x.addValue(1, 1), 2);
    }

    // ---- promise 9

    @Says(promise = 9, sentence = "Adds a microphone.")
    void microphoneIsAdded() {
        TrackArray x = sounding(1, 44);
        x.setSound(100);
        c.due("count(2)", x.count(2), 0);
        x.addMicrophone(0, 0, 0, 1);
        c.due("count(2) then", x.count(2), 1);
        x.makeRecording();
        c.due("what it hears", x.sample(0, 1), 44);
    }

    /** The distance of a source at x = 0, y = 100, height 0 from a microphone. */
    private static int heardFrom(int x, int y, int height) {
        TrackArray array = sounding(1, 1);
        array.addMicrophone(x, y, height, 1);
        return array.distance(0, 0, 0, false);
    }

    @Says(promise = 9, sentence = "`x`: -5000 to 5000")
    void leastAndGreatestXOfAMicrophone() {
        c.due("from -5000", heardFrom(-5000, 0, 0), 5000);
        c.due("from 5000", heardFrom(5000, 0, 0), 5000);
        TrackArray x = new TrackArray();
        x.addVehicle(-5000, 50, 100);
        x.addMicrophone(-5000, 0, 0, 1);
        x.addMicrophone(5000, 0, 0, 1);
        c.due("passing -5000", x.passTime(0, 0), 0);
        c.due("passing 5000", x.passTime(0, 1), 200);
    }

    @Says(promise = 9, sentence = "`y`: -100 to 99")
    void leastAndGreatestYOfAMicrophone() {
        c.due("from -100", heardFrom(0, -100, 0), 200);
        c.due("from 99", heardFrom(0, 99, 0), 1);
    }

    @Says(promise = 9, sentence = "`height`: 0 to 500")
    void leastAndGreatestHeightOfAMicrophone() {
        c.due("from 0", heardFrom(0, 0, 0), 100);
        c.due("from 500", heardFrom(0, 0, 500), 509);
    }

    @Says(promise = 9, sentence = "`weight`: 0 to 9")
    void leastAndGreatestWeightOfAMicrophone() {
        TrackArray x = new TrackArray();
        x.addMicrophone(0, 0, 0, 0);
        x.addMicrophone(0, 0, 0, 9);
        c.due("the weight of 0", x.setWeight(0, 5), 0);
        c.due("the weight of 1", x.setWeight(1, 5), 9);
    }

    @Says(promise = 9, sentence = "A microphone has an x (-5000 to 5000), a y (-100 to 99), a height (0 to 500) "
            + "and a weight (0 to 9).")
    void microphoneHasAPlaceAndAWeight() {
        // 40 along, 110 across and 200 up: 231.7
        TrackArray x = sounding(1, 1);
        x.addMicrophone(40, -10, 200, 7);
        c.due("distance", x.distance(0, 0, 0, false), 231);
        c.due("weight", x.setWeight(0, 0), 7);
        c.due("the least of all", x.addMicrophone(-5000, -100, 0, 0), 1);
        c.due("the greatest of all", x.addMicrophone(5000, 99, 500, 9), 2);
    }

    @Says(promise = 9, sentence = "There are at most 8 microphones, numbered from 0.")
    void eightMicrophones() {
        TrackArray x = new TrackArray();
        for (int number = 0; number < 8; number++) {
            c.due("addMicrophone", x.addMicrophone(0, 0, 0, 1), number);
        }
        c.refused("a ninth one", () -> x.addMicrophone(0, 0, 0, 1));
        c.due("count(2)", x.count(2), 8);
    }

    @Says(promise = 9, sentence = "Returns the number of the microphone.")
    void numberOfTheMicrophone() {
        TrackArray x = new TrackArray();
        for (int number = 0; number < 8; number++) {
            c.due("addMicrophone", x.addMicrophone(number, number, number, number), number);
        }
        for (int number = 0; number < 8; number++) {
            c.due("the weight of " + number, x.setWeight(number, 0), number);
        }
        Checks.loadText(x, "mic 0 0 0 0;mic 0 0 0 0;");
        c.due("after two of a text", x.addMicrophone(0, 0, 0, 1), 2);
    }

    @Says(promise = 9, sentence = "Throws `IllegalArgumentException` if an argument is out of range")
    void microphoneOutOfRange() {
        refuses(ILLEGAL, (x, along) -> x.addMicrophone(along, 0, 0, 1), -5001, 5001, MIN, MAX);
        refuses(ILLEGAL, (x, across) -> x.addMicrophone(0, across, 0, 1), -101, 100, MIN, MAX);
        refuses(ILLEGAL, (x, height) -> x.addMicrophone(0, 0, height, 1), -1, 501, MIN, MAX);
        refuses(ILLEGAL, (x, weight) -> x.addMicrophone(0, 0, 0, weight), -1, 10, MIN, MAX);
    }

    @Says(promise = 9, sentence = "Throws `IllegalStateException` if there are 8 microphones")
    void ninthMicrophone() {
        refuses(REFUSED, Scenes::crammed, x -> x.addMicrophone(0, 0, 0, 1), x -> x.addMicrophone(5000, 99, 500, 9));
    }

    // ---- promise 10

    @Says(promise = 10, sentence = "Sets the weight of a microphone.")
    void weightIsSet() {
        TrackArray x = Scenes.recorded();
        x.setWeight(0, 5);
        x.setWeight(1, 7);
        c.due("10 times 5 and 10 times 7", x.beam(0), 120);
    }

    @Says(promise = 10, sentence = "`microphone`: a microphone")
    void weightOfFirstAndLast() {
        TrackArray x = Scenes.full();
        x.setWeight(0, 3);
        x.setWeight(7, 4);
        for (int microphone = 0; microphone < 8; microphone++) {
            int due = microphone == 0 ? 3 : microphone == 7 ? 4 : 1;
            c.due("the weight of " + microphone, x.setWeight(microphone, 0), due);
        }
    }

    @Says(promise = 10, sentence = "`weight`: 0 to 9")
    void leastAndGreatestWeight() {
        TrackArray x = Scenes.recorded();
        x.setWeight(0, 0);
        c.due("10 times 0 and 10 times 2", x.beam(0), 20);
        x.setWeight(0, 9);
        c.due("10 times 9 and 10 times 2", x.beam(0), 110);
    }

    @Says(promise = 10, sentence = "Returns the previous weight.")
    void previousWeight() {
        TrackArray x = Scenes.plain();
        c.due("setWeight(1, 9)", x.setWeight(1, 9), 2);
        c.due("setWeight(0, 9)", x.setWeight(0, 9), 1);
        c.illegal("setWeight(1, 10)", () -> x.setWeight(1, 10));
        c.due("setWeight(1, 9) again", x.setWeight(1, 9), 9);
        c.due("setWeight(1, 0)", x.setWeight(1, 0), 9);
    }

    @Says(promise = 10, sentence = "Throws `IndexOutOfBoundsException` if there is no such microphone")
    void weightOfNoMicrophone() {
        refusesMicrophones((x, microphone) -> x.setWeight(microphone, 1));
    }

    @Says(promise = 10, sentence = "Throws `IllegalArgumentException` if weight is out of range")
    void weightOutOfRange() {
        refuses(ILLEGAL, (x, weight) -> x.setWeight(2, weight), -1, 10, MIN, MAX);
    }

    // ---- promise 11

    @Says(promise = 11, sentence = "`what`: 0: vehicles; 1: sources; 2: microphones; 3: recordings that have been made")
    void whatIsCounted() {
        TrackArray x = Scenes.rich();
        c.due("vehicles", x.count(0), 2);
        c.due("sources", x.count(1), 2);
        c.due("microphones", x.count(2), 3);
        c.due("recordings", x.count(3), 2);
        TrackArray y = Scenes.full();
        c.due("4 vehicles", y.count(0), 4);
        c.due("6 sources", y.count(1), 6);
        c.due("8 microphones", y.count(2), 8);
        c.due("no recordings", y.count(3), 0);
    }

    @Says(promise = 11, sentence = "Returns how many there are.")
    void howManyThereAre() {
        TrackArray x = new TrackArray();
        for (int what = 0; what <= 3; what++) {
            c.due("count(" + what + ") at first", x.count(what), 0);
        }
        for (int amount = 1; amount <= 4; amount++) {
            x.addVehicle(0, 0, 100);
            x.addSource(0, 0, 0, 1, 1);
            x.addMicrophone(0, 0, 0, 1);
            x.makeRecording();
            for (int what = 0; what <= 3; what++) {
                c.due("count(" + what + ")", x.count(what), amount);
            }
        }
    }

    @Says(promise = 11, sentence = "Throws `IllegalArgumentException` if what is out of range")
    void whatOutOfRange() {
        refuses(ILLEGAL, (x, what) -> x.count(what), -1, 4, 5, MIN, MAX);
    }
}
