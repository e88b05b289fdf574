/** Sentences of the promises 44 and 45. */
final class SaveSentences extends Sentences {

    /** Changes all that is saved of Scenes.rich(). */
    private static void change(TrackArray x) {
        x.setSound(200);
        x.setGround(-3);
        x.setSpreading(false);
        x.setNoise(5, 70);
        x.addVehicle(0, 0, 100);
        x.addSource(2, 1, 2, 3, 4);
        x.addValue(1, 9);
        x.addMicrophone(1, 2, 3, 4);
        x.setWeight(0, 0);
        x.makeRecording();
        x.setCut(false);
        x.focusOnDirection(50);
    }

    @Says(promise = 44, sentence = "Saves everything except the text buffer, the latest error and the saved states;")
    void everythingIsSaved() {
        TrackArray x = Scenes.rich();
        x.save(1);
        change(x);
        x.restore(1);
        TrackArray y = Scenes.rich();
        y.save(1);
        c.same("what was saved", Fingerprint.of(x), Fingerprint.of(y));
        TrackArray z = Scenes.crammed();
        z.save(0);
        z.truncateText(0);
        Checks.loadText(z, "vehicle -500 5 100;vehicle -500 5 100;");
        z.restore(0);
        c.due("vehicles after load()", z.count(0), 4);
        c.due("sources after load()", z.count(1), 6);
        c.due("the 16th value after load()", z.emitted(0, 15), 61);
        c.due("the sound after load()", z.setSound(100), 100);
        c.due("the vehicle 0 after load()", z.passTime(0, 7), 0);
        c.due("the vehicle 1 after load()", z.passTime(1, 7), 0);
    }

    @Says(promise = 44, sentence = "Saves everything except the text buffer, the latest error and the saved states;")
    void eachKindOfFocusIsSaved() {
        TrackArray x = Scenes.looking();
        x.focusOnDirection(40);
        x.save(0);
        x.focusOnDirection(-60);
        x.restore(0);
        c.due("a direction after another one", x.sampleNumber(0, 9), 9 + 20);
        x.focusOnPlace(5000, 700, 0);
        x.save(1);
        x.restore(0);
        c.due("a direction after a place", x.sampleNumber(0, 9), 9 + 20);
        x.restore(1);
        c.due("a place after a direction", x.sampleNumber(0, 9), 9 + 7);
        x.focusOnPlace(5000, 300, 0);
        x.restore(1);
        c.due("a place after another one", x.sampleNumber(0, 9), 9 + 7);
        x.addVehicle(4910, 10, 900);
        x.focusOnVehicle(0, 0, 0);
        x.save(0);
        x.restore(1);
        x.restore(0);
        c.due("a place on a vehicle after a fixed one", x.sampleNumber(0, 9), 9 + 9);
        c.due("it rides on", x.sampleNumber(0, 99), 99 + 13);
    }

    @Says(promise = 44, sentence = "Saves everything except the text buffer, the latest error and the saved states;")
    void textAndErrorAndSlotsAreNotSaved() {
        TrackArray x = new TrackArray();
        Checks.write(x, "sound 50");
        x.save(0);
        x.appendText('0' << 24 | ';' << 16 | ' ' << 8 | ' ');
        x.restore(0);
        c.due("the text stays", x.truncateText(12), 12);
        c.due("load()", x.load(), 1);
        c.due("the sound", x.setSound(340), 500);
        Checks.loadText(x, "noise 100;");
        x.save(1);
        x.restore(0);
        c.illegal("the text stays empty", () -> x.truncateText(1));
        c.due("the error code stays", x.errorCode(), 2);
        c.due("the error position stays", x.errorPosition(), 6);
        x.restore(1);
        c.due("slot 1, filled after slot 0, stays", x.errorCode(), 2);
        Checks.loadText(x, "noise 99;");
        x.restore(1);
        c.due("no error stays", x.errorCode(), 0);
    }

    @Says(promise = 44, sentence = "records are saved, too.")
    void recordsAreSaved() {
        TrackArray x = Scenes.noisy(31, 99);
        int[] noise = Scenes.noise(31, 99, 512);
        x.save(0);
        x.makeRecording();
        c.due("the next recording", x.sample(0, 0), noise[256]);
        x.restore(0);
        for (int n = 0; n <= 255; n++) {
            c.due("sample " + n, x.sample(0, n), noise[n]);
        }
        x.makeRecording();
        c.due("the generator was saved, too", x.sample(0, 255), noise[511]);
        c.due("the recordings were saved, too", x.count(3), 2);
    }

    @Says(promise = 44, sentence = "`slot`: 0 or 1; a state that is already saved there is replaced")
    void slotsAreReplaced() {
        TrackArray x = new TrackArray();
        int[] saved = {0, 0};
        for (int turn = 0; turn < 6; turn++) {
            int slot = turn % 3 == 0 ? 0 : 1;
            x.setSound(101 + turn);
            x.save(slot);
            saved[slot] = 101 + turn;
            for (int each = 0; each <= 1 && turn > 0; each++) {
                x.restore(each);
                c.due("slot " + each + " in turn " + turn, x.setSound(999), saved[each]);
            }
        }
    }

    @Says(promise = 44, sentence = "Throws `IllegalArgumentException` if slot is out of range")
    void savedOutOfRange() {
        refuses(ILLEGAL, (x, slot) -> x.save(slot), -1, 2, MIN, MAX);
        TrackArray x = new TrackArray();
        c.illegal("save(2)", () -> x.save(2));
        c.refused("restore(0) after it", () -> x.restore(0));
        c.refused("restore(1) after it", () -> x.restore(1));
    }

    @Says(promise = 45, sentence = "Brings back a saved state,")
    void savedStateIsBroughtBack() {
        TrackArray x = Scenes.plain();
        x.save(0);
        use(x);
        x.restore(0);
        c.due("vehicles", x.count(0), 1);
        c.due("sources", x.count(1), 1);
        c.due("microphones", x.count(2), 2);
        c.due("recordings", x.count(3), 0);
        c.due("the weight", x.setWeight(1, 2), 2);
        c.due("the sound", x.setSound(100), 100);
        c.due("the focus", x.sampleNumber(0, 0), 1);
        c.due("the length of the pattern", x.addValue(0, 1), 3);
        c.outside("the microphone 2", () -> x.sample(2, 0));
        c.due("a microphone that is added has no record", x.addMicrophone(0, 0, 0, 1), 2);
        c.due("its peak", x.measureRecord(2, 1, 0, 255), 0);
        c.due("a source that is added has one value", x.addSource(0, 0, 0, 1, 7), 1);
        c.due("its value at 1", x.emitted(1, 1), 7);
    }

    /** Adds to Scenes.plain() and changes it. */
    private static void use(TrackArray x) {
        x.addVehicle(0, 0, 100);
        x.addSource(0, 0, 0, 1, 9);
        x.addValue(1, 8);
        x.addValue(0, 8);
        x.addMicrophone(0, 0, 0, 1);
        x.setWeight(1, 0);
        x.setSound(300);
        x.focusOnPlace(900, 900, 9);
        x.makeRecording();
    }

    @Says(promise = 45, sentence = "which stays saved.")
    void savedStateStaysSaved() {
        TrackArray x = Scenes.rich();
        x.save(1);
        for (int turn = 0; turn < 3; turn++) {
            x.restore(1);
            c.due("vehicles", x.count(0), 2);
            c.due("the record", x.measureRecord(2, 0, 0, 255), Scenes.rich().measureRecord(2, 0, 0, 255));
            change(x);
            c.due("vehicles then", x.count(0), 3);
        }
        x.restore(1);
        x.restore(0);
        x.restore(1);
        TrackArray y = Scenes.rich();
        y.save(1);
        c.same("what was saved", Fingerprint.of(x), Fingerprint.of(y));
    }

    @Says(promise = 45, sentence = "`slot`: 0 or 1")
    void bothSlots() {
        TrackArray x = new TrackArray();
        x.setGround(10);
        x.save(0);
        x.setGround(11);
        x.save(1);
        x.setGround(12);
        x.restore(0);
        c.due("slot 0", x.setGround(13), 10);
        x.restore(1);
        c.due("slot 1", x.setGround(14), 11);
    }

    @Says(promise = 45, sentence = "Throws `IllegalArgumentException` if slot is out of range")
    void restoredOutOfRange() {
        refuses(ILLEGAL, (x, slot) -> x.restore(slot), -1, 2, MIN, MAX);
        refuses(ILLEGAL, Scenes::crammed, (x, slot) -> x.restore(slot), -1, 2, MIN, MAX);
    }

    @Says(promise = 45, sentence = "Throws `IllegalStateException` if nothing is saved there")
    void nothingIsSavedThere() {
        refuses(REFUSED, x -> x.restore(1));
        refuses(REFUSED, TrackArray::new, x -> x.restore(0), x -> x.restore(1));
        TrackArray x = new TrackArray();
        x.save(1);
        c.refused("restore(0)", () -> x.restore(0));
        x.restore(1);
        c.refused("restore(0) still", () -> x.restore(0));
        x.save(0);
        x.restore(0);
    }
}
