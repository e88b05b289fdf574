/** The promises 1 to 11. */
public final class SetupTest {
    private static final Checks C = new Checks("SetupTest");

    public static void main(String[] args) {
        newObject();
        sound();
        ground();
        spreading();
        noise();
        vehicles();
        sources();
        values();
        microphones();
        weights();
        counts();
        C.end();
    }

    private static void newObject() { // promise 1
        TrackArray x = new TrackArray();
        for (int what = 0; what <= 3; what++) {
            C.due("count(" + what + ")", x.count(what), 0);
        }
        C.due("errorCode()", x.errorCode(), 0);
        C.due("errorPosition()", x.errorPosition(), -1);
        C.due("beam(0)", x.beam(0), 0);
        C.illegal("truncateText(1)", () -> x.truncateText(1));
        C.due("truncateText(0)", x.truncateText(0), 0);
        C.refused("restore(0)", () -> x.restore(0));
        C.refused("restore(1)", () -> x.restore(1));
        C.due("setSound", x.setSound(100), 340);
        C.due("setGround", x.setGround(1), 0);
        C.due("setSpreading", x.setSpreading(true), false);
        C.due("setCut", x.setCut(true), false);
        C.outside("sample(0, 0)", () -> x.sample(0, 0));
    }

    private static void sound() { // promise 2
        TrackArray x = new TrackArray();
        C.range("setSound", 100, 1000, x::setSound);
        x.setSound(200);
        C.illegal("setSound(99)", () -> x.setSound(99));
        C.illegal("setSound(1001)", () -> x.setSound(1001));
        C.due("setSound after refused ones", x.setSound(300), 200);
        C.due("setSound again", x.setSound(300), 300);
        x.addVehicle(0, 0, 400);
        x.addMicrophone(0, 0, 0, 1);
        x.focusOnPlace(0, 600, 0);
        C.due("sampleNumber at 300", x.sampleNumber(0, 0), 2);
        x.setSound(100);
        C.due("sampleNumber at 100", x.sampleNumber(0, 0), 6);
    }

    private static void ground() { // promise 3
        TrackArray x = new TrackArray();
        C.range("setGround", -90, 90, x::setGround);
        x.setGround(-90);
        C.illegal("setGround(91)", () -> x.setGround(91));
        C.due("setGround after a refused one", x.setGround(20), -90);
        C.due("setGround again", x.setGround(0), 20);
    }

    private static void spreading() { // promise 4
        TrackArray x = new TrackArray();
        C.due("setSpreading(false)", x.setSpreading(false), false);
        C.due("setSpreading(true)", x.setSpreading(true), false);
        C.due("setSpreading(true) again", x.setSpreading(true), true);
        C.due("setSpreading(false) at last", x.setSpreading(false), true);
        TrackArray y = Scenes.plain();
        y.setSpreading(true);
        y.makeRecording();
        C.due("10 over 100", y.sample(0, 1), 9);
        C.due("-6 over 100 toward 0", y.sample(0, 2), -5);
        C.due("10 over 200", y.sample(1, 2), 8);
    }

    private static void noise() { // promise 5
        C.range("seed", 0, Integer.MAX_VALUE, seed -> new TrackArray().setNoise(seed, 0));
        C.range("level", 0, 99, level -> new TrackArray().setNoise(0, level));
        TrackArray x = new TrackArray();
        x.setNoise(7, 3);
        C.illegal("setNoise(-1, 5)", () -> x.setNoise(-1, 5));
        C.illegal("setNoise(5, 100)", () -> x.setNoise(5, 100));
        x.addMicrophone(0, 0, 0, 1);
        x.makeRecording();
        TrackArray y = Scenes.noisy(7, 3);
        for (int n = 0; n <= 255; n++) {
            C.due("noise after refused calls " + n, x.sample(0, n), y.sample(0, n));
        }
        // the state after one draw from 0 is 12345, which yields 0
        C.due("the first noise from 0", Scenes.noisy(0, 5).sample(0, 0), -5);
        // the state 1 becomes 1103527590, and 1103527590 / 65536 is 16838
        C.due("the first noise from 1, level 1", Scenes.noisy(1, 1).sample(0, 0), 16838 % 3 - 1);
        C.due("the first noise from 1, level 99", Scenes.noisy(1, 99).sample(0, 0), 16838 % 199 - 99);
        // 2147483647 is -1 here: it becomes 12345 - 1103515245 + 2147483648 = 1043980748
        C.due("the first noise from the greatest", Scenes.noisy(Integer.MAX_VALUE, 99).sample(0, 0),
                1043980748 / 65536 % 199 - 99);
    }

    private static void vehicles() { // promise 6
        C.range("x", -20000, 20000, x -> new TrackArray().addVehicle(x, 0, 100));
        C.range("speed", -50, 50, speed -> new TrackArray().addVehicle(0, speed, 100));
        C.range("y", 100, 5000, y -> new TrackArray().addVehicle(0, 0, y));
        TrackArray x = new TrackArray();
        for (int k = 0; k < 4; k++) {
            C.illegal("addVehicle with a bad y", () -> x.addVehicle(0, 0, 99));
            C.due("addVehicle", x.addVehicle(100 * k, 10, 100), k);
            C.due("count(0)", x.count(0), k + 1);
        }
        C.refused("a fifth vehicle", () -> x.addVehicle(0, 0, 100));
        C.illegal("a fifth vehicle with a bad x", () -> x.addVehicle(20001, 0, 100));
        C.illegal("a fifth vehicle with a bad speed", () -> x.addVehicle(0, -51, 100));
        C.due("count(0) at last", x.count(0), 4);
        x.addMicrophone(350, 0, 0, 1);
        C.due("the place of vehicle 1", x.passTime(1, 0), 25);
        C.due("the place of vehicle 3", x.passTime(3, 0), 5);
    }

    private static void sources() { // promise 7
        C.range("offset", -1000, 1000, offset -> Scenes.plain().addSource(0, offset, 0, 1, 1));
        C.range("height", 0, 500, height -> Scenes.plain().addSource(0, 0, height, 1, 1));
        C.range("strength", 1, 10, strength -> Scenes.plain().addSource(0, 0, 0, strength, 1));
        C.range("value", -99, 99, value -> Scenes.plain().addSource(0, 0, 0, 1, value));
        C.numbers("addSource", 4, vehicle -> vehicles(4).addSource(vehicle, 0, 0, 1, 1));
        TrackArray x = vehicles(2);
        for (int k = 0; k < 6; k++) {
            C.outside("no vehicle and a bad offset", () -> x.addSource(2, 5000, 0, 1, 1));
            C.illegal("a bad value", () -> x.addSource(0, 0, 0, 1, 100));
            C.due("addSource", x.addSource(k % 2, 10 * k, k, 3, k), k);
            C.due("count(1)", x.count(1), k + 1);
        }
        C.refused("a seventh source", () -> x.addSource(0, 0, 0, 1, 1));
        C.illegal("a seventh source with a bad strength", () -> x.addSource(0, 0, 0, 0, 1));
        C.outside("a seventh source of no vehicle", () -> x.addSource(-1, 0, 0, 1, 1));
        C.due("count(1) at last", x.count(1), 6);
        C.due("emitted(5, 9)", x.emitted(5, 9), 15);
    }

    private static TrackArray vehicles(int amount) {
        TrackArray x = new TrackArray();
        for (int k = 0; k < amount; k++) {
            x.addVehicle(0, 0, 100);
        }
        return x;
    }

    private static void values() { // promise 8
        C.range("addValue", -99, 99, value -> Scenes.plain().addValue(0, value));
        C.numbers("addValue", 6, source -> Scenes.full().addValue(source, 1));
        TrackArray x = vehicles(1);
        x.addSource(0, 0, 0, 1, 50);
        x.addSource(0, 0, 0, 1, 70);
        for (int length = 2; length <= 16; length++) {
            C.due("addValue", x.addValue(0, length), length);
        }
        C.refused("a 17th value", () -> x.addValue(0, 1));
        C.illegal("a 17th value that is bad", () -> x.addValue(0, 100));
        C.outside("a bad value of no source", () -> x.addValue(2, 100));
        C.due("emitted(0, 0)", x.emitted(0, 0), 50);
        C.due("emitted(0, 15)", x.emitted(0, 15), 16);
        C.due("emitted(0, 16)", x.emitted(0, 16), 50);
        C.due("emitted(1, 1)", x.emitted(1, 1), 70);
        C.due("addValue(1, 8)", x.addValue(1, 8), 2);
        C.due("emitted(1, 1) then", x.emitted(1, 1), 8);
    }

    private static void microphones() { // promise 9
        C.range("x", -5000, 5000, x -> new TrackArray().addMicrophone(x, 0, 0, 1));
        C.range("y", -100, 99, y -> new TrackArray().addMicrophone(0, y, 0, 1));
        C.range("height", 0, 500, height -> new TrackArray().addMicrophone(0, 0, height, 1));
        C.range("weight", 0, 9, weight -> new TrackArray().addMicrophone(0, 0, 0, weight));
        TrackArray x = new TrackArray();
        for (int k = 0; k < 8; k++) {
            C.illegal("addMicrophone with a bad weight", () -> x.addMicrophone(0, 0, 0, 10));
            C.due("addMicrophone", x.addMicrophone(k, k, k, k), k);
            C.due("count(2)", x.count(2), k + 1);
        }
        C.refused("a ninth microphone", () -> x.addMicrophone(0, 0, 0, 0));
        C.illegal("a ninth microphone with a bad y", () -> x.addMicrophone(0, 100, 0, 0));
        C.due("count(2) at last", x.count(2), 8);
        C.due("the weight of 7", x.setWeight(7, 0), 7);
        TrackArray y = Scenes.recorded();
        y.addMicrophone(0, 0, 0, 1);
        C.due("the record of a later microphone", y.measureRecord(2, 0, 0, 255), 0);
        y.makeRecording();
        C.due("its record then", y.sample(2, 1), 10);
    }

    private static void weights() { // promise 10
        C.range("setWeight", 0, 9, weight -> Scenes.plain().setWeight(0, weight));
        C.numbers("setWeight", 8, microphone -> Scenes.full().setWeight(microphone, 0));
        TrackArray x = Scenes.recorded();
        C.due("setWeight(1, 9)", x.setWeight(1, 9), 2);
        C.illegal("setWeight(1, 10)", () -> x.setWeight(1, 10));
        C.illegal("setWeight(1, -1)", () -> x.setWeight(1, -1));
        C.outside("setWeight(2, 10)", () -> x.setWeight(2, 10));
        C.due("setWeight(1, 4)", x.setWeight(1, 4), 9);
        C.due("beam(0)", x.beam(0), 10 + 4 * 10);
        C.due("the weight of the other", x.setWeight(0, 0), 1);
    }

    private static void counts() { // promise 11
        TrackArray x = Scenes.full();
        C.range("count", 0, 3, x::count);
        C.due("vehicles", x.count(0), 4);
        C.due("sources", x.count(1), 6);
        C.due("microphones", x.count(2), 8);
        C.due("recordings", x.count(3), 0);
        x.makeRecording();
        x.makeRecording();
        C.due("recordings then", x.count(3), 2);
    }
}
