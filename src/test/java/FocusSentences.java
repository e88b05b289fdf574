/** Sentences of the promises 23 to 28, and of BEAMS that belong to them, but for the cut. */
final class FocusSentences extends Sentences {

    /** The focus stays as it is, whatever kind it is of. */
    private void refusesWithEachFocus(Class<? extends RuntimeException> due, NumberCall call, int... numbers) {
        refuses(due, Scenes::rich, call, numbers);
        refuses(due, FocusSentences::fixed, call, numbers);
        refuses(due, FocusSentences::looking, call, numbers);
    }

    private static TrackArray fixed() {
        TrackArray x = Scenes.rich();
        x.focusOnPlace(-70, 140, 210);
        return x;
    }

    private static TrackArray looking() {
        TrackArray x = Scenes.rich();
        x.setSound(100);
        x.focusOnDirection(80);
        return x;
    }

    // ---- promise 23

    /** A vehicle from -100 on, 10 in a sample, and one that stands at 0; 400 and 1000 beside a microphone. */
    private static TrackArray road() {
        TrackArray x = new TrackArray();
        x.setSound(100);
        x.addVehicle(-100, 10, 400);
        x.addVehicle(0, 0, 1000);
        x.addMicrophone(0, 0, 0, 1);
        return x;
    }

    @Says(promise = 23, sentence = "Lets the focus ride on a vehicle.")
    void focusRides() {
        TrackArray x = road();
        x.focusOnVehicle(0, 0, 0);
        // 100 along: 412.3; 400 at the time 10; 1200 along, 1264.9, at the time 130
        c.due("at 0", x.sampleNumber(0, 0), 5);
        c.due("at 10", x.sampleNumber(0, 10), 14);
        c.due("at 130", x.sampleNumber(0, 130), 143);
        x.focusOnDirection(0);
        x.focusOnVehicle(1, 0, 0);
        c.due("another vehicle, after a direction", x.sampleNumber(0, 10), 20);
    }

    @Says(promise = 23, sentence = "A focus is a place that rides on a vehicle "
            + "(with an offset and a height, like a source),")
    void focusHasAnOffsetAndAHeight() {
        TrackArray x = road();
        x.focusOnVehicle(0, 100, 300);
        c.due("400 across and 300 up", x.sampleNumber(0, 0), 5);
        // 1200 along too: 1300
        c.due("at 120", x.sampleNumber(0, 120), 133);
        x.addSource(0, 100, 300, 1, 1);
        x.addMicrophone(20, -30, 200, 1);
        for (int time = 0; time <= 255; time += 5) {
            int samples = (x.distance(1, 0, time, false) + 99) / 100;
            c.due("like a source at " + time, x.sampleNumber(1, time), time + samples);
        }
    }

    @Says(promise = 23, sentence = "`vehicle`: a vehicle")
    void firstAndLastVehicleOfTheFocus() {
        TrackArray x = new TrackArray();
        x.setSound(100);
        x.addMicrophone(0, 0, 0, 1);
        for (int k = 1; k <= 4; k++) {
            x.addVehicle(0, 0, 1000 * k);
        }
        x.focusOnVehicle(0, 0, 0);
        c.due("the vehicle 0", x.sampleNumber(0, 0), 10);
        x.focusOnVehicle(3, 0, 0);
        c.due("the vehicle 3", x.sampleNumber(0, 0), 40);
    }

    @Says(promise = 23, sentence = "`offset`: -1000 to 1000")
    void leastAndGreatestOffsetOfTheFocus() {
        TrackArray x = new TrackArray();
        x.setSound(100);
        x.addVehicle(500, 0, 100);
        x.addMicrophone(0, 0, 0, 1);
        x.focusOnVehicle(0, -1000, 0);
        c.due("500 to the left: 509.9", x.sampleNumber(0, 0), 6);
        x.focusOnVehicle(0, 1000, 0);
        c.due("1500 to the right: 1503.3", x.sampleNumber(0, 0), 16);
    }

    @Says(promise = 23, sentence = "`height`: 0 to 500")
    void leastAndGreatestHeightOfTheFocus() {
        TrackArray x = road();
        x.focusOnVehicle(1, 0, 0);
        c.due("1000", x.sampleNumber(0, 0), 10);
        x.focusOnVehicle(1, 0, 500);
        c.due("1118", x.sampleNumber(0, 0), 12);
    }

    @Says(promise = 23, sentence = "Throws `IndexOutOfBoundsException` if there is no such vehicle")
    void focusOnNoVehicle() {
        refusesVehicles((x, vehicle) -> x.focusOnVehicle(vehicle, 0, 0));
        refusesWithEachFocus(OUTSIDE, (x, vehicle) -> x.focusOnVehicle(vehicle, 0, 0), -1, 2);
    }

    @Says(promise = 23, sentence = "Throws `IllegalArgumentException` if another argument is out of range")
    void focusOnVehicleOutOfRange() {
        refusesWithEachFocus(ILLEGAL, (x, offset) -> x.focusOnVehicle(0, offset, 7), -1001, 1001, MIN, MAX);
        refusesWithEachFocus(ILLEGAL, (x, height) -> x.focusOnVehicle(0, 7, height), -1, 501, MIN, MAX);
    }

    // ---- promise 24

    @Says(promise = 24, sentence = "Sets the focus to a fixed place.")
    void focusIsAPlace() {
        TrackArray x = road();
        x.focusOnVehicle(0, 0, 0);
        x.focusOnPlace(300, 400, 0);
        c.due("500 away", x.sampleNumber(0, 0), 5);
        x.focusOnDirection(9);
        x.focusOnPlace(0, 400, 300);
        c.due("500 away, after a direction", x.sampleNumber(0, 0), 5);
        c.due("and later", x.sampleNumber(0, 255), 260);
    }

    @Says(promise = 24, sentence = "or a fixed place, or a direction.")
    void placeStays() {
        TrackArray x = road();
        x.focusOnVehicle(0, 0, 0);
        x.focusOnPlace(0, 300, 0);
        for (int time = 0; time <= 255; time++) {
            c.due("at " + time, x.sampleNumber(0, time), time + 3);
        }
    }

    @Says(promise = 24, sentence = "At first it is the fixed place x = 0, y = 100, height 0.")
    void placeAtFirst() {
        // just 100 away, and just more than 100 away in each direction
        first(0, 0, 0, 100, 1);
        first(0, -1, 0, 100, 2);
        first(0, 99, 0, 100, 1);
        // 5000.99 and 509.9 away
        first(5000, 0, 0, 500, 10);
        first(5000, 0, 0, 499, 11);
        first(-5000, 0, 0, 500, 10);
        first(-5000, 0, 0, 499, 11);
        first(0, 0, 500, 509, 1);
        first(0, 0, 500, 508, 2);
    }

    private void first(int x, int y, int height, int sound, int due) {
        TrackArray array = new TrackArray();
        array.setSound(sound);
        array.addVehicle(0, 50, 100);
        array.addMicrophone(x, y, height, 1);
        c.due("from " + x + ", " + y + ", " + height, array.sampleNumber(0, 0), due);
        c.due("from " + x + ", " + y + ", " + height + " later", array.sampleNumber(0, 200), 200 + due);
    }

    private static int placed(int x, int y, int height) {
        TrackArray array = road();
        array.focusOnPlace(x, y, height);
        return array.sampleNumber(0, 0);
    }

    @Says(promise = 24, sentence = "`x`: -20000 to 20000")
    void leastAndGreatestXOfThePlace() {
        // 20000.2
        c.due("-20000", placed(-20000, 100, 0), 200);
        c.due("20000", placed(20000, 100, 0), 200);
        TrackArray x = new TrackArray();
        x.setSound(100);
        x.addMicrophone(5000, 0, 0, 1);
        x.focusOnPlace(-20000, 100, 0);
        c.due("-20000 from 5000", x.sampleNumber(0, 0), 250);
        x.focusOnPlace(20000, 100, 0);
        c.due("20000 from 5000", x.sampleNumber(0, 0), 150);
    }

    @Says(promise = 24, sentence = "`y`: 100 to 5000")
    void leastAndGreatestYOfThePlace() {
        c.due("100", placed(0, 100, 0), 1);
        c.due("5000", placed(0, 5000, 0), 50);
    }

    @Says(promise = 24, sentence = "`height`: 0 to 500")
    void leastAndGreatestHeightOfThePlace() {
        c.due("0", placed(0, 1200, 0), 12);
        c.due("500", placed(0, 1200, 500), 13);
    }

    @Says(promise = 24, sentence = "Throws `IllegalArgumentException` if an argument is out of range")
    void focusOnPlaceOutOfRange() {
        refusesWithEachFocus(ILLEGAL, (x, along) -> x.focusOnPlace(along, 300, 7), -20001, 20001, MIN, MAX);
        refusesWithEachFocus(ILLEGAL, (x, across) -> x.focusOnPlace(7, across, 7), 99, 5001, 0, -100, MIN, MAX);
        refusesWithEachFocus(ILLEGAL, (x, height) -> x.focusOnPlace(7, 300, height), -1, 501, MIN, MAX);
    }

    // ---- promise 25

    /** Three microphones whose records are noise, at 300, -300 and 0. */
    private static TrackArray line() {
        TrackArray x = new TrackArray();
        x.setSound(100);
        x.setNoise(31, 99);
        x.addMicrophone(300, 0, 0, 1);
        x.addMicrophone(-300, 0, 0, 1);
        x.addMicrophone(0, 0, 500, 1);
        x.makeRecording();
        return x;
    }

    private static final int[] NOISE = Scenes.noise(31, 99, 768);

    @Says(promise = 25, sentence = "Sets the focus to a direction.")
    void focusIsADirection() {
        TrackArray x = line();
        x.focusOnDirection(100);
        c.due("from 300", x.sampleNumber(0, 10), 13);
        c.due("from -300", x.sampleNumber(1, 10), 7);
        c.due("from 0", x.sampleNumber(2, 10), 10);
        c.due("the part of 300", x.part(0, 10), NOISE[13]);
        c.due("the part of -300", x.part(1, 10), NOISE[256 + 7]);
    }

    @Says(promise = 25, sentence = "or a fixed place, or a direction.")
    void directionHasNoPlace() {
        TrackArray x = line();
        x.focusOnPlace(0, 400, 300);
        x.focusOnDirection(0);
        for (int time = 0; time <= 255; time++) {
            c.due("at " + time, x.sampleNumber(2, time), time);
        }
    }

    @Says(promise = 25, sentence = "`direction`: -100 to 100")
    void leastAndGreatestDirection() {
        TrackArray x = line();
        x.focusOnDirection(-100);
        c.due("-100 from 300", x.sampleNumber(0, 10), 7);
        c.due("-100 from -300", x.sampleNumber(1, 10), 13);
        x.focusOnDirection(100);
        c.due("100 from 300", x.sampleNumber(0, 10), 13);
        c.due("100 from -300", x.sampleNumber(1, 10), 7);
    }

    @Says(promise = 25, sentence = "A direction is a number s from -100 to 100:")
    void directionsFromLeastToGreatest() {
        TrackArray x = line();
        for (int direction = -100; direction <= 100; direction++) {
            x.focusOnDirection(direction);
            c.due("direction " + direction, x.sampleNumber(0, 50), 50 + Math.floorDiv(3 * direction, 100));
        }
    }

    @Says(promise = 25, sentence = "Throws `IllegalArgumentException` if direction is out of range")
    void directionOutOfRange() {
        refusesWithEachFocus(ILLEGAL, (x, direction) -> x.focusOnDirection(direction), -101, 101, MIN, MAX);
    }

    // ---- promise 27

    @Says(promise = 27, sentence = "For a place, each microphone has at the time t the sample number n, "
            + "the smallest n for which n * c is at least the arrival mark of the place at the time t.")
    void smallestSampleNumber() {
        TrackArray x = new TrackArray();
        x.addMicrophone(0, 0, 0, 1);
        x.addMicrophone(0, -1, 0, 1);
        x.focusOnPlace(0, 600, 0);
        for (int sound : new int[] {100, 120, 150, 200, 300, 600}) {
            x.setSound(sound);
            c.due("600 away at " + sound, x.sampleNumber(0, 30), 30 + 600 / sound);
            c.due("601 away at " + sound, x.sampleNumber(1, 30), 30 + 600 / sound + 1);
        }
        // not the place mirrored at the ground
        x.addMicrophone(0, 0, 150, 1);
        x.focusOnPlace(0, 400, 150);
        x.setSound(100);
        c.due("400 away, and 500 by way of the ground", x.sampleNumber(2, 0), 4);
        x.focusOnPlace(0, 600, 0);
        x.setSound(601);
        c.due("600 away at 601", x.sampleNumber(0, 0), 1);
        c.due("601 away at 601", x.sampleNumber(1, 0), 1);
        x.setSound(599);
        c.due("600 away at 599", x.sampleNumber(0, 255), 257);
    }

    @Says(promise = 27, sentence = "`microphone`: a microphone")
    void sampleNumbersOfFirstAndLast() {
        TrackArray x = ladder();
        for (int microphone = 0; microphone < 8; microphone++) {
            c.due("of " + microphone, x.sampleNumber(microphone, 9), 9 + 5 + microphone);
        }
    }

    /** Eight microphones in a row under a focus that is 500, 600 .. 1200 away, whose records are noise. */
    private static TrackArray ladder() {
        TrackArray x = new TrackArray();
        x.setSound(100);
        x.setNoise(31, 99);
        int[] along = {0, 331, 489, 624, 748, 866, 979, 1090};
        for (int k = 0; k < 8; k++) {
            x.addMicrophone(along[k], 0, 0, k + 1);
        }
        x.makeRecording();
        x.focusOnPlace(0, 500, 0);
        return x;
    }

    @Says(promise = 27, sentence = "`time`: 0 to 255")
    void sampleNumbersAtFirstAndLast() {
        TrackArray x = road();
        x.focusOnVehicle(0, 0, 0);
        // 412 away at 0; 2450 along, 2482.4, at 255
        c.due("at 0", x.sampleNumber(0, 0), 5);
        c.due("at 255", x.sampleNumber(0, 255), 280);
    }

    @Says(promise = 27, sentence = "Returns the sample number of the microphone at this time for the focus,")
    void sampleNumberForTheFocus() {
        TrackArray x = road();
        c.due("for the place at first", x.sampleNumber(0, 40), 41);
        x.focusOnVehicle(0, 0, 0);
        c.due("for a place on a vehicle", x.sampleNumber(0, 40), 45);
        x.focusOnDirection(50);
        c.due("for a direction", x.sampleNumber(0, 40), 40);
        x.focusOnPlace(-300, 400, 0);
        c.due("for another place", x.sampleNumber(0, 40), 45);
    }

    @Says(promise = 27, sentence = "whether there is such a sample or not.")
    void sampleNumberOfNoSample() {
        TrackArray x = new TrackArray();
        x.setSound(100);
        x.addMicrophone(5000, -100, 500, 1);
        x.focusOnPlace(-20000, 5000, 500);
        // 25000 along and 5100 across: 25514.9
        c.due("the farthest place at 255", x.sampleNumber(0, 255), 255 + 256);
        x.focusOnPlace(5000, 100, 0);
        c.due("a near place at 255", x.sampleNumber(0, 255), 261);
        x.focusOnDirection(100);
        c.due("a direction at 255", x.sampleNumber(0, 255), 305);
        x.focusOnDirection(-100);
        c.due("a direction at 0", x.sampleNumber(0, 0), -50);
        c.due("a direction at 49", x.sampleNumber(0, 49), -1);
    }

    @Says(promise = 27, sentence = "Throws `IndexOutOfBoundsException` if there is no such microphone")
    void sampleNumberOfNoMicrophone() {
        refusesMicrophones((x, microphone) -> x.sampleNumber(microphone, 0));
    }

    @Says(promise = 27, sentence = "Throws `IllegalArgumentException` if time is out of range")
    void sampleNumberOutOfTime() {
        refuses(ILLEGAL, (x, time) -> x.sampleNumber(2, time), -1, 256, MIN, MAX);
    }

    // ---- promise 28

    @Says(promise = 28, sentence = "Its part at the time t is the sample n of its record (0 if n is greater than 255).")
    void partIsASample() {
        TrackArray x = Scenes.noisy(31, 99);
        x.setSound(100);
        x.focusOnPlace(0, 400, 0);
        for (int time = 0; time <= 251; time++) {
            c.due("at " + time, x.part(0, time), NOISE[time + 4]);
        }
        for (int time = 252; time <= 255; time++) {
            c.due("at " + time, x.part(0, time), 0);
        }
        x.focusOnPlace(20000, 5000, 500);
        c.due("far behind the record", x.part(0, 255), 0);
    }

    @Says(promise = 28, sentence = "the part of a microphone at the time t is the sample "
            + "n = t + (x of the microphone) * s / (100 * c) of its record,")
    void partOfADirection() {
        TrackArray x = line();
        x.focusOnDirection(67);
        // 300 * 67 / 10000 is 2.01, of -300 it is -2.01
        for (int time = 3; time <= 253; time += 5) {
            c.due("of 300 at " + time, x.part(0, time), NOISE[time + 2]);
            c.due("of -300 at " + time, x.part(1, time), NOISE[256 + time - 3]);
            c.due("of 0 at " + time, x.part(2, time), NOISE[512 + time]);
        }
        x.setSound(1000);
        x.focusOnDirection(100);
        c.due("of 300 with another sound", x.part(0, 9), NOISE[9]);
        c.due("of -300 with another sound", x.part(1, 9), NOISE[256 + 8]);
    }

    @Says(promise = 28, sentence = "where this division rounds down;")
    void directionIsRoundedDown() {
        int[][] cases = {{300, -50, 100, -2}, {-300, -50, 100, 1}, {300, 50, 100, 1}, {-300, 50, 100, -2},
            {200, -50, 100, -1}, {-200, 50, 100, -1}, {1, -1, 1000, -1}, {-1, 1, 1000, -1}, {1, 1, 1000, 0},
            {-1, -1, 1000, 0}, {0, -100, 100, 0}, {5000, -100, 340, -15}, {4999, 2, 100, 0}, {-4999, 2, 100, -1},
            {5000, 2, 100, 1}, {-5000, 2, 100, -1}};
        for (int[] each : cases) {
            TrackArray x = new TrackArray();
            x.setNoise(31, 99);
            x.addMicrophone(each[0], 0, 0, 1);
            x.makeRecording();
            x.setSound(each[2]);
            x.focusOnDirection(each[1]);
            String call = each[0] + " * " + each[1] + " / (100 * " + each[2] + ")";
            c.due("the number of " + call, x.sampleNumber(0, 100), 100 + each[3]);
            c.due("the part of " + call, x.part(0, 100), NOISE[100 + each[3]]);
        }
    }

    @Says(promise = 28, sentence = "it is 0 if n is not 0 to 255.")
    void partOfNoSample() {
        TrackArray x = line();
        x.focusOnDirection(-100);
        c.due("the number 2 - 3", x.part(0, 2), 0);
        c.due("the number 0 - 3", x.part(0, 0), 0);
        c.due("the number 3 - 3", x.part(0, 3), NOISE[0]);
        c.due("the number 252 + 3", x.part(1, 252), NOISE[256 + 255]);
        c.due("the number 253 + 3", x.part(1, 253), 0);
        c.due("the number 255 + 3", x.part(1, 255), 0);
    }

    @Says(promise = 28, sentence = "`microphone`: a microphone")
    void partsOfFirstAndLast() {
        TrackArray x = ladder();
        int[] noise = Scenes.noise(31, 99, 2048);
        for (int microphone = 0; microphone < 8; microphone++) {
            c.due("of " + microphone, x.part(microphone, 7), noise[256 * microphone + 7 + 5 + microphone]);
        }
    }

    @Says(promise = 28, sentence = "`time`: 0 to 255")
    void partsAtFirstAndLast() {
        TrackArray x = Scenes.looking();
        c.due("at 0", x.part(0, 0), NOISE[0]);
        c.due("at 255", x.part(0, 255), NOISE[255]);
    }

    @Says(promise = 28, sentence = "Returns the part of the microphone at this time for the focus,")
    void partForTheFocus() {
        TrackArray x = Scenes.noisy(31, 99);
        x.setSound(100);
        x.addVehicle(0, 10, 300);
        c.due("for the place at first", x.part(0, 40), NOISE[41]);
        x.focusOnVehicle(0, 0, 0);
        c.due("for a place on a vehicle", x.part(0, 40), NOISE[45]);
        x.focusOnDirection(9);
        c.due("for a direction", x.part(0, 40), NOISE[40]);
        x.focusOnPlace(0, 800, 0);
        c.due("for another place", x.part(0, 40), NOISE[48]);
    }

    @Says(promise = 28, sentence = "without its weight.")
    void partWithoutItsWeight() {
        TrackArray x = Scenes.recorded();
        for (int weight = 0; weight <= 9; weight += 3) {
            x.setWeight(0, weight);
            x.setWeight(1, 9 - weight);
            c.due("of 0 with " + weight, x.part(0, 0), 10);
            c.due("of 1 with " + (9 - weight), x.part(1, 1), -6);
        }
        x.focusOnDirection(0);
        c.due("of a direction", x.part(1, 2), 10);
    }

    @Says(promise = 28, sentence = "Throws `IndexOutOfBoundsException` if there is no such microphone")
    void partOfNoMicrophone() {
        refusesMicrophones((x, microphone) -> x.part(microphone, 0));
    }

    @Says(promise = 28, sentence = "Throws `IllegalArgumentException` if time is out of range")
    void partOutOfTime() {
        refuses(ILLEGAL, (x, time) -> x.part(2, time), -1, 256, MIN, MAX);
    }
}
