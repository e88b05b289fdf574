/** Arrays that several tests begin with. */
final class Scenes {
    private Scenes() {
    }

    /** Sound of 100; one source, of 10 and -6 in turn, beside two microphones, one and two samples away. */
    static TrackArray plain() {
        TrackArray x = new TrackArray();
        x.setSound(100);
        x.addVehicle(0, 0, 100);
        x.addSource(0, 0, 0, 2, 5);
        x.addValue(0, -3);
        x.addMicrophone(0, 0, 0, 1);
        x.addMicrophone(0, -100, 0, 2);
        return x;
    }

    static TrackArray recorded() {
        TrackArray x = plain();
        x.makeRecording();
        return x;
    }

    /** One source of 10, heard after four samples, and from a ground of a half after five. */
    static TrackArray echoing() {
        TrackArray x = new TrackArray();
        x.setSound(100);
        x.setGround(50);
        x.addVehicle(0, 0, 400);
        x.addSource(0, 0, 150, 1, 10);
        x.addMicrophone(0, 0, 150, 1);
        return x;
    }

    /** Four vehicles with six sources, and eight microphones. */
    static TrackArray full() {
        TrackArray x = new TrackArray();
        for (int k = 0; k < 4; k++) {
            x.addVehicle(k, 0, 100);
        }
        for (int k = 0; k < 6; k++) {
            x.addSource(0, 0, 0, 1, k);
        }
        for (int k = 0; k < 8; k++) {
            x.addMicrophone(k, 0, 0, 1);
        }
        return x;
    }

    /** One microphone whose record is noise, which the generator of the document makes. */
    static TrackArray noisy(int seed, int level) {
        TrackArray x = new TrackArray();
        x.setNoise(seed, level);
        x.addMicrophone(0, 0, 0, 1);
        x.makeRecording();
        return x;
    }
}
