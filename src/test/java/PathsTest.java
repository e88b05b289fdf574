/** The promises 12 to 15. */
public final class PathsTest {
    private static final Checks C = new Checks("PathsTest");

    public static void main(String[] args) {
        emitted();
        distances();
        farthest();
        emissionTimes();
        moving();
        passTimes();
        C.end();
    }

    private static void emitted() { // promise 12
        TrackArray x = Scenes.full();
        C.numbers("emitted", 6, source -> x.emitted(source, 0));
        C.range("emitted", 0, 255, time -> x.emitted(0, time));
        C.outside("emitted(6, 256)", () -> x.emitted(6, 256));
        TrackArray y = Scenes.plain();
        y.addSource(0, 0, 0, 10, -99);
        y.addValue(1, 0);
        y.addValue(1, 99);
        C.due("emitted(0, 0)", y.emitted(0, 0), 10);
        C.due("emitted(0, 255)", y.emitted(0, 255), -6);
        C.due("emitted(1, 0)", y.emitted(1, 0), -990);
        C.due("emitted(1, 1)", y.emitted(1, 1), 0);
        C.due("emitted(1, 2)", y.emitted(1, 2), 990);
        C.due("emitted(1, 255)", y.emitted(1, 255), -990);
    }

    private static void distances() { // promise 13
        TrackArray full = Scenes.full();
        C.numbers("distance of microphone", 8, microphone -> full.distance(microphone, 0, 0, false));
        C.numbers("distance of source", 6, source -> full.distance(0, source, 0, true));
        C.range("distance", 0, 255, time -> full.distance(0, 0, time, false));
        C.outside("no microphone at 256", () -> full.distance(8, 0, 256, false));
        C.outside("no source at 256", () -> full.distance(0, 6, 256, false));
        TrackArray x = new TrackArray();
        x.addVehicle(-100, 10, 400);
        x.addSource(0, 100, 100, 1, 1);
        x.addMicrophone(0, 0, 100, 1);
        x.addMicrophone(-50, 99, 200, 1);
        C.due("direct at 0", x.distance(0, 0, 0, false), 400);
        C.due("direct at 30", x.distance(0, 0, 30, false), 500);
        // 400 * 400 + 200 * 200 = 200000, whose root is 447.2
        C.due("reflected at 0", x.distance(0, 0, 0, true), 447);
        // 50 * 50 + 301 * 301 + 100 * 100 = 103101: 321.09
        C.due("direct to another", x.distance(1, 0, 0, false), 321);
        // 50 * 50 + 301 * 301 + 300 * 300 = 183101: 427.9
        C.due("reflected to another", x.distance(1, 0, 0, true), 427);
    }

    private static void farthest() { // promise 13
        TrackArray x = new TrackArray();
        x.addVehicle(20000, 50, 5000);
        x.addSource(0, 1000, 500, 1, 1);
        x.addMicrophone(-5000, -100, 500, 1);
        // 38750 * 38750 + 5100 * 5100 = 1527572500: 39084.17
        C.due("the farthest", x.distance(0, 0, 255, false), 39084);
        // and 1000 * 1000 more: 1528572500: 39096.96
        C.due("the farthest reflected", x.distance(0, 0, 255, true), 39096);
        TrackArray y = new TrackArray();
        y.addVehicle(-20000, -50, 5000);
        y.addSource(0, -1000, 0, 1, 1);
        y.addMicrophone(5000, -100, 0, 1);
        C.due("the farthest to the left", y.distance(0, 0, 255, false), 39084);
        TrackArray z = new TrackArray();
        z.addVehicle(0, 0, 100);
        z.addSource(0, 0, 0, 1, 1);
        z.addMicrophone(0, 99, 0, 1);
        C.due("the nearest", z.distance(0, 0, 0, false), 1);
    }

    private static void emissionTimes() { // promise 14
        TrackArray full = Scenes.full();
        C.numbers("emissionTime of microphone", 8, microphone -> full.emissionTime(microphone, 0, 0, false));
        C.numbers("emissionTime of source", 6, source -> full.emissionTime(0, source, 0, true));
        C.range("emissionTime", 0, 255, sample -> full.emissionTime(0, 0, sample, false));
        C.outside("no microphone at -1", () -> full.emissionTime(-1, 0, -1, false));
        C.outside("no source at -1", () -> full.emissionTime(0, -1, -1, false));
        TrackArray x = Scenes.echoing();
        C.due("nothing yet", x.emissionTime(0, 0, 3, false), -1);
        C.due("the first", x.emissionTime(0, 0, 4, false), 0);
        C.due("no reflection yet", x.emissionTime(0, 0, 4, true), -1);
        C.due("the first reflection", x.emissionTime(0, 0, 5, true), 0);
        C.due("the last", x.emissionTime(0, 0, 255, false), 251);
        C.due("the last reflection", x.emissionTime(0, 0, 255, true), 250);
        x.setSound(399);
        C.due("a mark just missed", x.emissionTime(0, 0, 1, false), -1);
        C.due("at 2", x.emissionTime(0, 0, 2, false), 0);
        x.setSound(400);
        C.due("a mark just met", x.emissionTime(0, 0, 1, false), 0);
        C.due("the latest of all", x.emissionTime(0, 0, 255, false), 254);
    }

    private static void moving() { // promise 14
        TrackArray x = new TrackArray();
        x.setSound(100);
        x.addVehicle(-4000, 50, 100);
        x.addSource(0, 0, 0, 1, 1);
        x.addMicrophone(0, 0, 0, 1);
        // 4000 away: 40.0125 samples; it comes nearer by half the way of sound
        C.due("distance(0)", x.distance(0, 0, 0, false), 4001);
        C.due("at 40", x.emissionTime(0, 0, 40, false), -1);
        C.due("at 41", x.emissionTime(0, 0, 41, false), 1);
        // from 60: 1000 away (1004), mark 7004
        C.due("at 70", x.emissionTime(0, 0, 70, false), 59);
        C.due("at 71", x.emissionTime(0, 0, 71, false), 61);
        // going away: from 100 1000 away (1004), mark 11004; from 101 the mark 11154
        C.due("at 110", x.emissionTime(0, 0, 110, false), 99);
        C.due("at 111", x.emissionTime(0, 0, 111, false), 100);
        C.due("at 112", x.emissionTime(0, 0, 112, false), 101);
        C.due("at 113", x.emissionTime(0, 0, 113, false), 101);
    }

    private static void passTimes() { // promise 15
        TrackArray full = Scenes.full();
        C.numbers("passTime of vehicle", 4, vehicle -> full.passTime(vehicle, 0));
        C.numbers("passTime of microphone", 8, microphone -> full.passTime(0, microphone));
        TrackArray x = new TrackArray();
        x.addVehicle(-100, 10, 100);
        x.addVehicle(5, 0, 100);
        x.addVehicle(-20000, 1, 100);
        x.addVehicle(300, -40, 100);
        x.addMicrophone(0, 0, 0, 1);
        x.addMicrophone(-45, 0, 0, 1);
        x.addMicrophone(-101, 0, 0, 1);
        C.due("passing", x.passTime(0, 0), 10);
        C.due("two times as near", x.passTime(0, 1), 5);
        C.due("passed before", x.passTime(0, 2), 0);
        C.due("standing", x.passTime(1, 0), 0);
        C.due("still coming", x.passTime(2, 0), 255);
        // 300, 260, .. 20, -20: as near
        C.due("backward", x.passTime(3, 0), 7);
        C.due("backward to -101", x.passTime(3, 2), 10);
    }
}
