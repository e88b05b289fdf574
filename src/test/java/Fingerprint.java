/** What can be asked of an array, in one text: two arrays that were used alike answer alike. It uses the array up. */
final class Fingerprint {
    private final TrackArray x;
    private final StringBuilder text = new StringBuilder();

    private Fingerprint(TrackArray x) {
        this.x = x;
    }

    /** Some 250 calls at most, so that some 250 are left before it: an array is used for 512. */
    static String of(TrackArray x) {
        String error = "errorCode = " + x.errorCode() + "\nerrorPosition = " + x.errorPosition() + "\n";
        return error + ofAllButTheError(x);
    }

    static String ofAllButTheError(TrackArray x) {
        Fingerprint print = new Fingerprint(x);
        print.askSettings();
        print.askPlaces();
        print.askRecords();
        if (x.count(2) == 0) {
            print.say("addMicrophone", x.addMicrophone(0, 0, 0, 1));
        }
        print.say("makeRecording", x.makeRecording());
        print.askRecords();
        print.askText();
        for (int slot = 0; slot <= 1; slot++) {
            print.askSlot(slot);
        }
        return print.text.toString();
    }

    private void say(String call, long answer) {
        text.append(call).append(" = ").append(answer).append('\n');
    }

    private void askSettings() {
        for (int what = 0; what <= 3; what++) {
            say("count " + what, x.count(what));
        }
        int sound = x.setSound(340);
        x.setSound(sound);
        say("sound", sound);
        int ground = x.setGround(0);
        x.setGround(ground);
        say("ground", ground);
        boolean spreading = x.setSpreading(true);
        x.setSpreading(spreading);
        say("spreading", spreading ? 1 : 0);
        boolean cut = x.setCut(true);
        x.setCut(cut);
        say("cut", cut ? 1 : 0);
    }

    private void askPlaces() {
        for (int source = 0; source < x.count(1); source++) {
            for (int time : new int[] {0, 1, 2, 15, 16}) {
                say("emitted " + source + " at " + time, x.emitted(source, time));
            }
            if (x.count(2) > 0) {
                say("distance of source " + source, x.distance(0, source, 200, false));
            }
        }
        for (int microphone = 0; microphone < x.count(2); microphone++) {
            say("sampleNumber of " + microphone, x.sampleNumber(microphone, 3));
            int weight = x.setWeight(microphone, 9);
            x.setWeight(microphone, weight);
            say("weight of " + microphone, weight);
            if (x.count(0) > 0) {
                say("passTime of " + microphone, x.passTime(x.count(0) - 1, microphone));
            }
        }
        say("beam", x.measureBeam(0, 0, 255));
        say("beam beside", x.energyBeside(40, 0, 255));
    }

    private void askRecords() {
        for (int microphone = 0; microphone < x.count(2); microphone++) {
            say("sum of " + microphone, x.measureRecord(microphone, 3, 0, 255));
            say("products of " + microphone, x.correlation(microphone, microphone, 1));
        }
    }

    private void askText() {
        try {
            say("appendText", x.appendText('0' << 24 | ';' << 16 | ' ' << 8 | ' '));
        } catch (IllegalStateException e) {
            say("appendText", -1);
        }
        say("load", x.load());
        say("errorCode after load", x.errorCode());
        say("errorPosition after load", x.errorPosition());
        askSettings();
    }

    private void askSlot(int slot) {
        try {
            x.restore(slot);
            say("restore " + slot, 1);
        } catch (IllegalStateException e) {
            say("restore " + slot, 0);
        }
        askSettings();
        askRecords();
        say("beam in slot " + slot, x.measureBeam(0, 0, 255));
    }
}
