/** Sentences of the cut: promise 26, and of BEAMS what is taken away of a part. */
final class CutSentences extends Sentences {
    private static final int[] NOISE = Scenes.noise(31, 99, 256);

    @Says(promise = 26, sentence = "Switches the cut on or off.")
    void cutIsSwitched() {
        TrackArray x = echo(150);
        x.setCut(true);
        c.due("on", x.part(0, 1), NOISE[5] - NOISE[4] * 50 / 100);
        x.setCut(false);
        c.due("off", x.part(0, 1), NOISE[5]);
    }

    @Says(promise = 26, sentence = "`on`: true for on")
    void trueIsCut() {
        TrackArray x = echo(150);
        x.setCut(true);
        x.setCut(true);
        c.due("true twice", x.part(0, 1), NOISE[5] - NOISE[4] * 50 / 100);
        x.setCut(false);
        x.setCut(false);
        c.due("false twice", x.part(0, 1), NOISE[5]);
    }

    @Says(promise = 26, sentence = "Returns true if it was on.")
    void wasCut() {
        TrackArray x = new TrackArray();
        c.due("setCut(false) at first", x.setCut(false), false);
        c.due("setCut(true)", x.setCut(true), false);
        c.due("setCut(true) again", x.setCut(true), true);
        c.due("setCut(false)", x.setCut(false), true);
        c.due("setCut(false) again", x.setCut(false), false);
    }

    /**
     * A record of noise; the focus is 400 away, and its reflection 500 if the microphone is 150 high, and 501 if it is
     * 152 high. The ground is 50.
     */
    private static TrackArray echo(int height) {
        TrackArray x = new TrackArray();
        x.setSound(100);
        x.setGround(50);
        x.setNoise(31, 99);
        x.addVehicle(0, 0, 400);
        x.addMicrophone(0, 0, height, 1);
        x.makeRecording();
        x.focusOnPlace(0, 400, 150);
        return x;
    }

    @Says(promise = 28, sentence = "If the cut is on (it is off at first), the ground reflection is taken away:")
    void reflectionIsTakenAway() {
        TrackArray x = echo(150);
        for (int time = 0; time <= 9; time++) {
            c.due("off at first, at " + time, x.part(0, time), NOISE[time + 4]);
        }
        TrackArray y = Scenes.echoing();
        y.addValue(0, -20);
        y.makeRecording();
        y.focusOnVehicle(0, 0, 150);
        y.setCut(true);
        for (int time = 0; time <= 251; time++) {
            c.due("what the source emitted at " + time, y.part(0, time), time % 2 == 0 ? 10 : -20);
        }
    }

    @Says(promise = 28, sentence = "let u be the latest time from 0 to 255 whose reflected arrival mark of the place "
            + "is at most n * c.")
    void latestTimeOfTheReflection() {
        // the reflection comes a sample later, and two samples later if it is a centimeter longer
        TrackArray one = echo(150);
        one.setCut(true);
        c.due("a sample later", one.part(0, 1), NOISE[5] - NOISE[4] * 50 / 100);
        TrackArray two = echo(152);
        two.setCut(true);
        c.due("two samples later, at 1", two.part(0, 1), NOISE[5]);
        c.due("two samples later, at 2", two.part(0, 2), NOISE[6] - NOISE[4] * 50 / 100);
        c.due("two samples later, at 3", two.part(0, 3), NOISE[7] - NOISE[5] * 50 / 100);
    }

    @Says(promise = 28, sentence = "If there is one")
    void noTimeOfTheReflection() {
        TrackArray x = echo(150);
        x.setCut(true);
        c.due("none at 0", x.part(0, 0), NOISE[4]);
        TrackArray high = new TrackArray();
        high.setSound(100);
        high.setGround(90);
        high.setNoise(31, 99);
        high.addMicrophone(0, 0, 500, 1);
        high.makeRecording();
        high.setCut(true);
        high.focusOnPlace(0, 100, 500);
        // 100 away, the reflection 1004: 11 samples, the first of them at 10
        for (int time = 0; time <= 9; time++) {
            c.due("none at " + time, high.part(0, time), NOISE[time + 1]);
        }
        c.due("one at 10", high.part(0, 10), NOISE[11] - NOISE[1] * 90 / 100);
    }

    @Says(promise = 28, sentence = "and it is earlier than t,")
    void timeOfTheReflectionIsNotEarlier() {
        // at no height the reflection comes at the same time
        TrackArray x = echo(150);
        x.setCut(true);
        x.focusOnPlace(0, 400, 0);
        c.due("a microphone of 150 up, the same time, at 5", x.part(0, 5), NOISE[10]);
        TrackArray fast = new TrackArray();
        fast.setSound(100);
        fast.setGround(90);
        fast.setNoise(31, 99);
        fast.addVehicle(-4000, 50, 100);
        fast.addMicrophone(0, 0, 0, 1);
        fast.makeRecording();
        fast.setCut(true);
        fast.focusOnVehicle(0, 0, 0);
        // both marks of the times 0, 1, 2, 3, 4: 4001, 4051, 4101, 4151, 4201
        c.due("the time 1 is later than 0", fast.part(0, 0), NOISE[41]);
        c.due("the time 1 is 1", fast.part(0, 1), NOISE[41]);
        c.due("the time 3 is later than 2", fast.part(0, 2), NOISE[42]);
        c.due("the time 3 is 3", fast.part(0, 3), NOISE[42]);
        c.due("at 150", fast.part(0, 150), NOISE[fast.sampleNumber(0, 150)]);
    }

    @Says(promise = 28, sentence = "the part is reduced by the reflected amount of the part at the time u: "
            + "this part (also reduced),")
    void earlierPartIsReducedToo() {
        TrackArray x = echo(150);
        x.setCut(true);
        int before = 0;
        for (int time = 0; time <= 251; time++) {
            before = NOISE[time + 4] - before * 50 / 100;
            c.due("at " + time, x.part(0, time), before);
        }
    }

    @Says(promise = 28, sentence = "times (1000 + d) / (1000 + d') if spreading is on "
            + "(multiplied first, then divided; d is the distance and d' the reflected distance at the time u),")
    void reflectionWithSpreading() {
        TrackArray x = echo(150);
        x.setCut(true);
        x.setSpreading(true);
        int before = 0;
        for (int time = 0; time <= 251; time++) {
            before = NOISE[time + 4] - before * 1400 / 1500 * 50 / 100;
            c.due("at " + time, x.part(0, time), before);
        }
        TrackArray moving = moving();
        int[] parts = new int[256];
        for (int time = 0; time <= 150; time++) {
            parts[time] = movingPart(parts, time);
            c.due("moving, at " + time, moving.part(0, time), parts[time]);
        }
    }

    /** The vehicle passes at the time 100; the focus and the microphone are 400 up. */
    private static TrackArray moving() {
        TrackArray x = new TrackArray();
        x.setSound(100);
        x.setGround(90);
        x.setNoise(31, 99);
        x.addVehicle(-4000, 40, 100);
        x.addMicrophone(0, 0, 400, 1);
        x.makeRecording();
        x.setSpreading(true);
        x.setCut(true);
        x.focusOnVehicle(0, 0, 400);
        return x;
    }

    private static int away(int time, int up) {
        int along = -4000 + 40 * time;
        return (int) Math.sqrt(along * along + 100 * 100 + up * up);
    }

    private static int movingPart(int[] parts, int time) {
        int number = time + (away(time, 0) + 99) / 100;
        int earlier = -1;
        for (int u = 0; u <= 255; u++) {
            earlier = 100 * u + away(u, 800) <= 100 * number ? u : earlier;
        }
        if (number > 255) {
            return 0;
        }
        if (earlier < 0 || earlier >= time) {
            return NOISE[number];
        }
        return NOISE[number] - parts[earlier] * (1000 + away(earlier, 0)) / (1000 + away(earlier, 800)) * 90 / 100;
    }

    @Says(promise = 28, sentence = "then times the ground divided by 100.")
    void reflectionTimesTheGround() {
        for (int ground : new int[] {-90, -33, -1, 0, 1, 50, 90}) {
            TrackArray x = echo(150);
            x.setGround(ground);
            x.setCut(true);
            c.due("with " + ground, x.part(0, 1), NOISE[5] - NOISE[4] * ground / 100);
            x.setSpreading(true);
            c.due("with " + ground + " and spreading", x.part(0, 1), NOISE[5] - NOISE[4] * 1400 / 1500 * ground / 100);
        }
        // 5 is spread to 4 first, of which 90 in the hundred are 3
        TrackArray y = heard(5, 0);
        y.setGround(90);
        y.setCut(true);
        y.setSpreading(true);
        c.due("what is spread is truncated first", y.part(0, 1), -3);
    }

    @Says(promise = 28, sentence = "Each division in this description truncates toward 0.")
    void cutIsTruncatedTowardZero() {
        TrackArray x = heard(5, 0, -5, 0, 7, 0, -7, 0);
        x.setCut(true);
        x.setGround(50);
        // half of 5, -2, -4, 2, 6, -3 .. is taken away
        int[] due = {5, -2, -5 + 1, 2, 7 - 1, -3, -7 + 1, 3, 5 - 1};
        for (int time = 0; time < due.length; time++) {
            c.due("at " + time, x.part(0, time), due[time]);
        }
        x.setSpreading(true);
        // 14 parts in 15 of 5, -2, -5, 2, 7, -3, -6, 2 are 4, -1, -4, 1, 6, -2, -5, 1, and half of these 2, 0, -2, 0 ..
        int[] spread = {5, -2, -5, 2, 7, -3, -7 + 1, 2, 5};
        for (int time = 0; time < spread.length; time++) {
            c.due("with spreading, at " + time, x.part(0, time), spread[time]);
        }
    }

    /** The source is heard after 4 samples; its place is the focus, and its reflection is 500 away. */
    private static TrackArray heard(int... values) {
        TrackArray x = new TrackArray();
        x.setSound(100);
        x.addVehicle(0, 0, 400);
        x.addSource(0, 0, 150, 1, values[0]);
        for (int k = 1; k < values.length; k++) {
            x.addValue(0, values[k]);
        }
        x.addMicrophone(0, 0, 150, 1);
        x.makeRecording();
        x.focusOnPlace(0, 400, 150);
        return x;
    }

    @Says(promise = 28, sentence = "If n is greater than 255, the part is 0 and is not reduced.")
    void partBehindTheRecordIsNotReduced() {
        TrackArray x = echo(150);
        x.setCut(true);
        c.due("the part at 251 is not 0", x.part(0, 251) != 0, true);
        c.due("at 252, the sample 256", x.part(0, 252), 0);
        c.due("at 253", x.part(0, 253), 0);
        c.due("at 255", x.part(0, 255), 0);
        TrackArray y = echo(152);
        y.setCut(true);
        c.due("at 252, reflected from 250", y.part(0, 252), 0);
        c.due("at 253, reflected from 251", y.part(0, 253), 0);
    }

    @Says(promise = 28, sentence = "Nothing is taken away.")
    void nothingIsTakenAwayOfADirection() {
        TrackArray x = echo(150);
        x.setCut(true);
        x.setSpreading(true);
        x.focusOnDirection(0);
        for (int time = 0; time <= 255; time++) {
            c.due("at " + time, x.part(0, time), NOISE[time]);
        }
    }
}
