import java.math.BigInteger;

/** Arrays that several tests begin with. */
final class Scenes {
    private Scenes() {
    }

    /** Sound of 100; one source, of 10 and -6 in turn, beside two microphones, one and two samples away. */
    static TrackArray plain() {
        TrackArray x = new TrackArray();
        x.setSound(100);
        x.addVehicle(0, 0, 100);
        x.addSource(0, 0, 0, 2, 5);
        x.addValue(0, -3);
        x.addMicrophone(0, 0, 0, 1);
        x.addMicrophone(0, -100, 0, 2);
        return x;
    }

    static TrackArray recorded() {
        TrackArray x = plain();
        x.makeRecording();
        return x;
    }

    /** One source of 10, heard after four samples, and from a ground of a half after five. */
    static TrackArray echoing() {
        TrackArray x = new TrackArray();
        x.setSound(100);
        x.setGround(50);
        x.addVehicle(0, 0, 400);
        x.addSource(0, 0, 150, 1, 10);
        x.addMicrophone(0, 0, 150, 1);
        return x;
    }

    /** Four vehicles with six sources, and eight microphones. */
    static TrackArray full() {
        TrackArray x = new TrackArray();
        for (int k = 0; k < 4; k++) {
            x.addVehicle(k, 0, 100);
        }
        for (int k = 0; k < 6; k++) {
            x.addSource(0, 0, 0, 1, k);
        }
        for (int k = 0; k < 8; k++) {
            x.addMicrophone(k, 0, 0, 1);
        }
        return x;
    }

    /** One microphone whose record is noise, which the generator of the document makes. */
    static TrackArray noisy(int seed, int level) {
        TrackArray x = new TrackArray();
        x.setNoise(seed, level);
        x.addMicrophone(0, 0, 0, 1);
        x.makeRecording();
        return x;
    }

    /** What the generator of the document makes of a seed, at a level that is not 0, without overflow. */
    static int[] noise(long seed, int level, int amount) {
        BigInteger state = BigInteger.valueOf(seed);
        int[] noise = new int[amount];
        for (int k = 0; k < amount; k++) {
            state = state.multiply(BigInteger.valueOf(1103515245)).add(BigInteger.valueOf(12345))
                    .mod(BigInteger.valueOf(2147483648L));
            noise[k] = (int) (state.longValueExact() / 65536 % (2 * level + 1)) - level;
        }
        return noise;
    }

    /**
     * The beam is the record of the only microphone, which is noise(31, 99, 256). The focus is the direction 1: from 2
     * on it would be the next sample, and below 0 the one before.
     */
    static TrackArray looking() {
        TrackArray x = new TrackArray();
        x.setSound(100);
        x.setNoise(31, 99);
        x.addMicrophone(5000, 0, 0, 1);
        x.makeRecording();
        x.focusOnDirection(1);
        return x;
    }

    /** One microphone hears one source after one sample: its record is 0, then the values again and again. */
    static TrackArray tone(int... values) {
        TrackArray x = new TrackArray();
        x.setSound(100);
        x.addVehicle(0, 0, 100);
        x.addSource(0, 0, 0, 1, values[0]);
        for (int k = 1; k < values.length; k++) {
            x.addValue(0, values[k]);
        }
        x.addMicrophone(0, 0, 0, 1);
        x.makeRecording();
        return x;
    }

    /** Of everything something: slot 0, a text that becomes one of a setup by "0;", an error of code 2 at 6. */
    static TrackArray rich() {
        TrackArray x = new TrackArray();
        Checks.loadText(x, "noise 100;");
        x.addVehicle(-500, 7, 333);
        x.addSource(0, 11, 22, 3, 44);
        x.addMicrophone(66, -77, 88, 9);
        x.setNoise(123, 45);
        x.makeRecording();
        x.save(0);
        x.addVehicle(200, -3, 150);
        x.addSource(1, -30, 200, 10, 99);
        x.addValue(1, -55);
        x.addValue(1, 7);
        x.addMicrophone(-300, 20, 0, 1);
        x.addMicrophone(0, 0, 150, 4);
        x.setSound(150);
        x.setGround(40);
        x.setSpreading(true);
        x.setNoise(77, 8);
        x.setCut(true);
        x.focusOnVehicle(1, 5, 60);
        x.makeRecording();
        Checks.write(x, "sound 20");
        return x;
    }

    /** Of everything as much as there can be: vehicles, sources, microphones, values of source 0, bytes and slots. */
    static TrackArray crammed() {
        TrackArray x = full();
        for (int length = 2; length <= 16; length++) {
            x.addValue(0, 10 * length - 99);
        }
        x.setSound(100);
        x.setNoise(5, 6);
        x.makeRecording();
        x.save(1);
        x.focusOnPlace(30, 200, 40);
        x.makeRecording();
        x.save(0);
        Checks.write(x, "spreading;".repeat(50));
        return x;
    }
}
