/** Sentences of EXCEPTIONS: which exception comes first, and that a method that throws one changes nothing. */
final class ExceptionSentences extends Sentences {
    private static final String ORDER = "If several exceptions apply, the one that comes first in the method's list "
            + "of exceptions is thrown.";
    private static final String NOTHING = "A method that throws an exception changes nothing.";

    // ---- what is refused changes nothing

    @Says(promise = 5, sentence = NOTHING)
    void settingsStay() {
        refuses(ILLEGAL, x -> x.setSound(1001), x -> x.setGround(-91), x -> x.setNoise(1, 100), x -> x.setNoise(-1, 1));
    }

    @Says(promise = 6, sentence = NOTHING)
    void vehiclesStay() {
        refuses(ILLEGAL, x -> x.addVehicle(1, 1, 99), x -> x.addVehicle(1, 51, 100), x -> x.addVehicle(20001, 1, 100));
        refuses(REFUSED, Scenes::crammed, x -> x.addVehicle(1, 1, 100));
    }

    @Says(promise = 7, sentence = NOTHING)
    void sourcesStay() {
        refuses(OUTSIDE, x -> x.addSource(2, 1, 1, 1, 1));
        refuses(ILLEGAL, x -> x.addSource(0, 1, 1, 1, 100), x -> x.addSource(0, 1, 1, 0, 1));
        refuses(REFUSED, Scenes::crammed, x -> x.addSource(0, 1, 1, 1, 1));
    }

    @Says(promise = 8, sentence = NOTHING)
    void patternsStay() {
        refuses(OUTSIDE, x -> x.addValue(2, 5), x -> x.addValue(-1, 5));
        refuses(ILLEGAL, x -> x.addValue(0, 100), x -> x.addValue(1, -100));
        refuses(REFUSED, Scenes::crammed, x -> x.addValue(0, 5));
    }

    @Says(promise = 9, sentence = NOTHING)
    void microphonesStay() {
        refuses(ILLEGAL, x -> x.addMicrophone(1, 1, 1, 10), x -> x.addMicrophone(1, 100, 1, 1));
        refuses(REFUSED, Scenes::crammed, x -> x.addMicrophone(1, 1, 1, 1));
    }

    @Says(promise = 10, sentence = NOTHING)
    void weightsStay() {
        refuses(OUTSIDE, x -> x.setWeight(3, 5), x -> x.setWeight(-1, 5));
        refuses(ILLEGAL, x -> x.setWeight(0, 10), x -> x.setWeight(1, -1));
    }

    @Says(promise = 23, sentence = NOTHING)
    void focusStays() {
        refuses(OUTSIDE, x -> x.focusOnVehicle(2, 1, 1));
        refuses(ILLEGAL, x -> x.focusOnVehicle(0, 1, 501), x -> x.focusOnVehicle(0, 1001, 1),
                x -> x.focusOnPlace(1, 100, 501), x -> x.focusOnPlace(1, 99, 1), x -> x.focusOnDirection(101));
        refuses(ILLEGAL, Scenes::looking, x -> x.focusOnPlace(1, 100, 501), x -> x.focusOnDirection(-101),
                x -> x.focusOnDirection(101));
        refuses(OUTSIDE, Scenes::looking, x -> x.focusOnVehicle(0, 1, 1));
    }

    @Says(promise = 33, sentence = NOTHING)
    void focusStaysAfterRefusedBeams() {
        refuses(ILLEGAL, x -> x.energyBeside(2001, 0, 255), x -> x.energyBeside(9, 1, 0), x -> x.scan(1, 21, 0, 9),
                x -> x.scan(5, 5, 0, 256), x -> x.bestDirection(0, 0, 9), x -> x.bestDirection(5, 9, 0),
                x -> x.spectrum(101, 1, 0, 9), x -> x.spectrum(5, 65, 0, 9));
    }

    @Says(promise = 39, sentence = NOTHING)
    void textStays() {
        refuses(REFUSED, Scenes::crammed, x -> x.appendText(0x20202020));
        refuses(ILLEGAL, x -> x.truncateText(9), x -> x.truncateText(-1));
        TrackArray x = new TrackArray();
        Checks.write(x, " ".repeat(489) + "noise 99;");
        c.refused("a text of 502", () -> x.appendText('@' << 24));
        c.due("load()", x.load(), 1);
    }

    @Says(promise = 45, sentence = NOTHING)
    void statesStay() {
        refuses(ILLEGAL, x -> x.save(2), x -> x.save(-1), x -> x.restore(2), x -> x.restore(-1));
        refuses(REFUSED, x -> x.restore(1));
    }

    // ---- which exception comes first

    @Says(promise = 6, sentence = ORDER)
    void orderOfAddVehicle() {
        refuses(ILLEGAL, Scenes::crammed, x -> x.addVehicle(20001, 0, 100), x -> x.addVehicle(0, -51, 100),
                x -> x.addVehicle(0, 0, 5001));
    }

    @Says(promise = 7, sentence = ORDER)
    void orderOfAddSource() {
        refuses(OUTSIDE, Scenes::crammed, x -> x.addSource(4, 1001, -1, 0, 100), x -> x.addSource(-1, 0, 0, 1, 1));
        refuses(ILLEGAL, Scenes::crammed, x -> x.addSource(0, 1001, 0, 1, 1), x -> x.addSource(0, 0, 501, 1, 1),
                x -> x.addSource(0, 0, 0, 11, 1), x -> x.addSource(0, 0, 0, 1, -100));
        refuses(OUTSIDE, x -> x.addSource(2, 0, 0, 0, 0), x -> x.addSource(-1, -1001, 0, 1, 1));
    }

    @Says(promise = 8, sentence = ORDER)
    void orderOfAddValue() {
        refuses(OUTSIDE, Scenes::crammed, x -> x.addValue(6, 100), x -> x.addValue(-1, -100));
        refuses(ILLEGAL, Scenes::crammed, x -> x.addValue(0, 100), x -> x.addValue(0, -100));
    }

    @Says(promise = 9, sentence = ORDER)
    void orderOfAddMicrophone() {
        refuses(ILLEGAL, Scenes::crammed, x -> x.addMicrophone(5001, 0, 0, 1), x -> x.addMicrophone(0, 100, 0, 1),
                x -> x.addMicrophone(0, 0, -1, 1), x -> x.addMicrophone(0, 0, 0, 10));
    }

    @Says(promise = 10, sentence = ORDER)
    void orderOfSetWeight() {
        refuses(OUTSIDE, x -> x.setWeight(3, 10), x -> x.setWeight(-1, -1));
    }

    @Says(promise = 12, sentence = ORDER)
    void orderOfEmitted() {
        refuses(OUTSIDE, x -> x.emitted(2, 256), x -> x.emitted(-1, -1));
    }

    @Says(promise = 13, sentence = ORDER)
    void orderOfDistance() {
        refuses(OUTSIDE, x -> x.distance(3, 0, 256, false), x -> x.distance(0, 2, -1, true));
    }

    @Says(promise = 14, sentence = ORDER)
    void orderOfEmissionTime() {
        refuses(OUTSIDE, x -> x.emissionTime(3, 0, 256, false), x -> x.emissionTime(0, 2, -1, true));
    }

    @Says(promise = 17, sentence = ORDER)
    void orderOfSample() {
        refuses(OUTSIDE, x -> x.sample(3, 256), x -> x.sample(-1, -1));
    }

    @Says(promise = 18, sentence = ORDER)
    void orderOfMeasureRecord() {
        refuses(OUTSIDE, x -> x.measureRecord(3, 5, 0, 255), x -> x.measureRecord(-1, 0, 1, 0));
    }

    @Says(promise = 20, sentence = ORDER)
    void orderOfLoudestWindow() {
        refuses(OUTSIDE, x -> x.loudestWindow(3, 0), x -> x.loudestWindow(-1, 257));
    }

    @Says(promise = 21, sentence = ORDER)
    void orderOfCorrelation() {
        refuses(OUTSIDE, x -> x.correlation(3, 0, 256), x -> x.correlation(0, 3, -256));
    }

    @Says(promise = 22, sentence = ORDER)
    void orderOfBestLag() {
        refuses(OUTSIDE, x -> x.bestLag(3, 0, 256), x -> x.bestLag(0, 3, -1));
    }

    @Says(promise = 23, sentence = ORDER)
    void orderOfFocusOnVehicle() {
        refuses(OUTSIDE, x -> x.focusOnVehicle(2, 1001, 0), x -> x.focusOnVehicle(-1, 0, 501));
    }

    @Says(promise = 27, sentence = ORDER)
    void orderOfSampleNumber() {
        refuses(OUTSIDE, x -> x.sampleNumber(3, 256), x -> x.sampleNumber(-1, -1));
    }

    @Says(promise = 28, sentence = ORDER)
    void orderOfPart() {
        refuses(OUTSIDE, x -> x.part(3, 256), x -> x.part(-1, -1));
    }

    @Says(promise = 45, sentence = ORDER)
    void orderOfRestore() {
        refuses(ILLEGAL, TrackArray::new, x -> x.restore(2), x -> x.restore(-1));
    }

    // ---- windows

    private interface Windowed {
        void in(int first, int last);
    }

    private void refusesTheWindows(int[][] windows) {
        TrackArray x = Scenes.rich();
        Windowed[] calls = {(f, l) -> x.measureRecord(0, 0, f, l), (f, l) -> x.loudestMicrophone(f, l),
            (f, l) -> x.measureBeam(0, f, l), (f, l) -> x.periodPower(1, f, l), (f, l) -> x.bestPeriod(1, f, l),
            (f, l) -> x.energyBeside(0, f, l), (f, l) -> x.scan(1, 0, f, l), (f, l) -> x.bestDirection(100, f, l),
            (f, l) -> x.spectrum(0, 1, f, l), (f, l) -> x.meanPower(f, l), (f, l) -> x.crest(f, l)};
        for (int k = 0; k < calls.length; k++) {
            Windowed call = calls[k];
            for (int[] each : windows) {
                c.illegal("method " + k + " in " + each[0] + " to " + each[1], () -> call.in(each[0], each[1]));
            }
            call.in(0, 0);
            call.in(0, 255);
            call.in(255, 255);
        }
    }

    @Says(promise = 18, sentence = "A window is out of range if its first time is less than 0,")
    void firstTimeLessThan0() {
        refusesTheWindows(new int[][] {{-1, 0}, {-1, 255}, {-1, -1}, {MIN, 255}, {MIN, MIN}});
    }

    @Says(promise = 18, sentence = "its last one is greater than 255,")
    void lastTimeGreaterThan255() {
        refusesTheWindows(new int[][] {{0, 256}, {255, 256}, {256, 256}, {0, MAX}, {MAX, MAX}});
    }

    @Says(promise = 18, sentence = "or the last one is before the first one.")
    void lastTimeBeforeTheFirst() {
        refusesTheWindows(new int[][] {{1, 0}, {255, 254}, {255, 0}, {128, 127}});
    }
}
