/** The promises 44 and 45. */
public final class SavesTest {
    private static final Checks C = new Checks("SavesTest");

    public static void main(String[] args) {
        refused();
        everything();
        random();
        text();
        slots();
        growth();
        loaded();
        C.end();
    }

    private static void refused() {
        TrackArray x = new TrackArray();
        C.range("save", 0, 1, x::save);
        C.range("restore", 0, 1, x::restore);
        TrackArray y = new TrackArray();
        y.save(1);
        C.refused("restore(0)", () -> y.restore(0));
        C.illegal("restore(2)", () -> y.restore(2));
        C.illegal("restore(-1)", () -> y.restore(-1));
        y.restore(1);
        C.illegal("save(2)", () -> y.save(2));
        C.refused("restore(0) still", () -> y.restore(0));
        TrackArray z = Scenes.recorded();
        C.refused("restore(0)", () -> z.restore(0));
        C.due("a refused one changes nothing", z.sample(0, 1), 10);
    }

    private static TrackArray rich() {
        TrackArray x = Scenes.echoing();
        x.addVehicle(-500, 7, 333);
        x.addSource(1, 11, 22, 3, 44);
        x.addValue(1, -55);
        x.addMicrophone(66, -77, 88, 9);
        x.setSpreading(true);
        x.setNoise(77, 8);
        x.makeRecording();
        x.setCut(true);
        x.focusOnVehicle(1, 5, 60);
        return x;
    }

    private static void change(TrackArray x) {
        x.setSound(200);
        x.setGround(-3);
        x.setSpreading(false);
        x.setNoise(5, 70);
        x.addVehicle(0, 0, 100);
        x.addSource(2, 1, 2, 3, 4);
        x.addValue(1, 9);
        x.addMicrophone(1, 2, 3, 4);
        x.setWeight(0, 0);
        x.makeRecording();
        x.setCut(false);
        x.focusOnDirection(50);
    }

    /** All that can be asked of the two arrays is the same. */
    private static void same(String when, TrackArray x, TrackArray y) {
        for (int what = 0; what <= 3; what++) {
            C.due(when + ": count(" + what + ")", x.count(what), y.count(what));
        }
        for (int m = 0; m < y.count(2); m++) {
            C.due(when + ": record", x.correlation(m, m, 1), y.correlation(m, m, 1));
            C.due(when + ": its sum", x.measureRecord(m, 3, 0, 255), y.measureRecord(m, 3, 0, 255));
            C.due(when + ": sampleNumber", x.sampleNumber(m, 9), y.sampleNumber(m, 9));
            C.due(when + ": part", x.part(m, 99), y.part(m, 99));
            for (int s = 0; s < y.count(1); s++) {
                C.due(when + ": distance", x.distance(m, s, 9, true), y.distance(m, s, 9, true));
                C.due(when + ": emissionTime", x.emissionTime(m, s, 99, false), y.emissionTime(m, s, 99, false));
                C.due(when + ": emitted", x.emitted(s, 17), y.emitted(s, 17));
                C.due(when + ": emitted", x.emitted(s, 18), y.emitted(s, 18));
            }
            for (int v = 0; v < y.count(0); v++) {
                C.due(when + ": passTime", x.passTime(v, m), y.passTime(v, m));
            }
        }
        C.due(when + ": the beam", x.measureBeam(0, 0, 255), y.measureBeam(0, 0, 255));
        C.due(when + ": the place beside", x.energyBeside(70, 0, 255), y.energyBeside(70, 0, 255));
    }

    /** What can be asked only by changing it. */
    private static void sameSettings(String when, TrackArray x, TrackArray y) {
        x.makeRecording();
        y.makeRecording();
        same(when + ", recorded again", x, y);
        C.due(when + ": setSound", x.setSound(340), y.setSound(340));
        C.due(when + ": setGround", x.setGround(0), y.setGround(0));
        C.due(when + ": setSpreading", x.setSpreading(false), y.setSpreading(false));
        C.due(when + ": setCut", x.setCut(false), y.setCut(false));
        for (int m = 0; m < y.count(2); m++) {
            C.due(when + ": setWeight", x.setWeight(m, 1), y.setWeight(m, 1));
        }
        for (int s = 0; s < y.count(1); s++) {
            C.due(when + ": addValue", x.addValue(s, 1), y.addValue(s, 1));
        }
    }

    private static void everything() {
        TrackArray x = rich();
        x.save(0);
        same("saved", x, rich());
        change(x);
        x.restore(0);
        same("restored", x, rich());
        sameSettings("restored", x, rich());
        change(x);
        x.restore(0);
        same("restored again", x, rich());
        TrackArray y = rich();
        y.focusOnDirection(-30);
        y.save(1);
        y.focusOnPlace(3, 300, 3);
        y.restore(1);
        TrackArray z = rich();
        z.focusOnDirection(-30);
        same("a direction", y, z);
        y.focusOnDirection(31);
        y.restore(1);
        same("another direction", y, z);
        y.focusOnPlace(3, 300, 3);
        y.save(1);
        y.focusOnPlace(33, 333, 33);
        y.restore(1);
        z.focusOnPlace(3, 300, 3);
        same("a place", y, z);
    }

    private static void random() {
        TrackArray x = Scenes.noisy(9, 99);
        x.save(0);
        x.makeRecording();
        int next = x.sample(0, 0);
        x.makeRecording();
        C.due("count(3)", x.count(3), 3);
        x.restore(0);
        C.due("count(3) restored", x.count(3), 1);
        C.due("the record restored", x.sample(0, 0), Scenes.noisy(9, 99).sample(0, 0));
        x.makeRecording();
        C.due("the generator restored", x.sample(0, 0), next);
    }

    private static void text() {
        TrackArray x = new TrackArray();
        Checks.write(x, "sound 50");
        x.save(0);
        C.due("the text stays", x.appendText(0x303b2020), 12);
        x.restore(0);
        C.due("the text stays here too", x.truncateText(10), 10);
        C.due("load()", x.load(), 1);
        x.restore(0);
        C.illegal("the text stays empty", () -> x.truncateText(1));
        C.due("setSound", x.setSound(100), 340);
    }

    private static void slots() {
        TrackArray x = new TrackArray();
        x.setSound(101);
        x.save(0);
        x.setSound(102);
        x.save(1);
        x.setSound(103);
        x.restore(0);
        C.due("slot 0", x.setSound(104), 101);
        x.restore(1);
        C.due("slot 1", x.setSound(105), 102);
        x.restore(0);
        C.due("slot 0 again", x.setSound(106), 101);
        x.save(0);
        x.setSound(107);
        x.restore(0);
        C.due("slot 0 replaced", x.setSound(108), 106);
        x.restore(1);
        C.due("slot 1 not replaced", x.setSound(109), 102);
    }

    /** What is added after a restoring begins anew. */
    private static void growth() {
        TrackArray x = Scenes.plain();
        x.save(0);
        x.addMicrophone(0, 0, 0, 1);
        x.addSource(0, 0, 0, 1, 9);
        for (int k = 2; k <= 16; k++) {
            x.addValue(1, k);
        }
        x.makeRecording();
        x.restore(0);
        C.due("addMicrophone", x.addMicrophone(0, 0, 0, 1), 2);
        C.due("its record", x.measureRecord(2, 0, 0, 255), 0);
        C.due("addSource", x.addSource(0, 0, 0, 1, 7), 1);
        C.due("its pattern", x.emitted(1, 1), 7);
        C.due("addValue", x.addValue(1, 3), 2);
        C.due("addVehicle", x.addVehicle(0, 0, 100), 1);
    }

    private static void loaded() {
        TrackArray x = rich();
        x.save(1);
        C.due("load()", Checks.loadText(x, "sound 100;"), 1);
        C.due("count(2)", x.count(2), 0);
        x.restore(1);
        same("restored after load()", x, rich());
        sameSettings("restored after load()", x, rich());
        String other = "mic 1 2 3 4; mic 5 6 7 8; mic 9 9 9 9; vehicle 1 2 300; vehicle 4 5 600; source 0 1 2 3 4 5 6;"
                + "source 0 7 8 9 10 11; sound 999; ground 1; spreading; noise 1;";
        TrackArray y = rich();
        y.save(0);
        C.due("load() of another", Checks.loadText(y, other), 11);
        y.save(1);
        y.restore(0);
        same("restored after another", y, rich());
        y.restore(1);
        TrackArray z = new TrackArray();
        Checks.loadText(z, other);
        same("another restored", y, z);
        y.restore(0);
        sameSettings("restored after another", y, rich());
    }
}
