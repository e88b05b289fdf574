import java.util.Arrays;

/** Microphones beside a track: what they record, and the beams that are formed of it. */
public final class TrackArray {
    public static final int NONE = -1;

    private static final int TIMES = 256;
    private static final int VEHICLES = 4;
    private static final int SOURCES = 6;
    private static final int MICROPHONES = 8;
    private static final int PATTERN_LENGTH = 16;
    private static final int SLOTS = 2;
    private static final int TEXT_LENGTH = 500;

    private static final int LEAST_SOUND = 100;
    private static final int GREATEST_SOUND = 1000;
    private static final int GREATEST_GROUND = 90;
    private static final int GREATEST_NOISE = 99;
    private static final int GREATEST_TRACK_X = 20000;
    private static final int GREATEST_SPEED = 50;
    private static final int LEAST_TRACK_Y = 100;
    private static final int GREATEST_TRACK_Y = 5000;
    private static final int GREATEST_OFFSET = 1000;
    private static final int GREATEST_HEIGHT = 500;
    private static final int GREATEST_STRENGTH = 10;
    private static final int GREATEST_VALUE = 99;
    private static final int GREATEST_MICROPHONE_X = 5000;
    private static final int LEAST_MICROPHONE_Y = -100;
    private static final int GREATEST_MICROPHONE_Y = 99;
    private static final int GREATEST_WEIGHT = 9;
    private static final int GREATEST_DIRECTION = 100;
    private static final int GREATEST_PERIOD = 64;
    private static final int GREATEST_BESIDE = 2000;
    private static final int GREATEST_STEP = 100;
    private static final int GREATEST_STEPS = 20;

    private static final int ENERGY = 0;
    private static final int PEAK = 1;
    private static final int LEVEL = 2;
    private static final int SUM = 3;
    private static final int CROSSINGS = 4;

    private static final int WRONG_TOKEN = 1;
    private static final int OUT_OF_RANGE = 2;
    private static final int NO_ROOM = 3;

    private final Scene scene = new Scene();
    private final Scene draft = new Scene();
    private final Scene[] savedScenes = new Scene[SLOTS];
    private final boolean[] slotFilled = new boolean[SLOTS];
    private final Path path = new Path();
    private final BeamFormer former = new BeamFormer();
    private final TextBuffer text = new TextBuffer();
    private final SetupReader reader = new SetupReader();

    public TrackArray() {
        for (int slot = 0; slot < SLOTS; slot++) {
            savedScenes[slot] = new Scene();
        }
    }

    // ---- setting up

    public int setSound(int speed) throws IllegalArgumentException {
        requireRange(speed, LEAST_SOUND, GREATEST_SOUND);
        int previous = scene.soundSpeed;
        scene.soundSpeed = speed;
        return previous;
    }

    public int setGround(int percent) throws IllegalArgumentException {
        requireRange(percent, -GREATEST_GROUND, GREATEST_GROUND);
        int previous = scene.ground;
        scene.ground = percent;
        return previous;
    }

    public boolean setSpreading(boolean on) {
        boolean previous = scene.spreading;
        scene.spreading = on;
        return previous;
    }

    public void setNoise(int seed, int level) throws IllegalArgumentException {
        requireRange(seed, 0, Integer.MAX_VALUE);
        requireRange(level, 0, GREATEST_NOISE);
        scene.randomState = seed;
        scene.noiseLevel = level;
    }

    public int addVehicle(int x, int speed, int y) throws IllegalArgumentException, IllegalStateException {
        requireRange(x, -GREATEST_TRACK_X, GREATEST_TRACK_X);
        requireRange(speed, -GREATEST_SPEED, GREATEST_SPEED);
        requireRange(y, LEAST_TRACK_Y, GREATEST_TRACK_Y);
        return requireRoom(scene.putVehicle(x, speed, y));
    }

    public int addSource(int vehicle, int offset, int height, int strength, int value)
            throws IndexOutOfBoundsException, IllegalArgumentException, IllegalStateException {
        requireNumber(vehicle, scene.vehicleCount);
        requireRange(offset, -GREATEST_OFFSET, GREATEST_OFFSET);
        requireRange(height, 0, GREATEST_HEIGHT);
        requireRange(strength, 1, GREATEST_STRENGTH);
        requireRange(value, -GREATEST_VALUE, GREATEST_VALUE);
        return requireRoom(scene.putSource(vehicle, offset, height, strength, value));
    }

    public int addValue(int source, int value)
            throws IndexOutOfBoundsException, IllegalArgumentException, IllegalStateException {
        Source changed = requireSource(source);
        requireRange(value, -GREATEST_VALUE, GREATEST_VALUE);
        return requireRoom(changed.append(value));
    }

    public int addMicrophone(int x, int y, int height, int weight)
            throws IllegalArgumentException, IllegalStateException {
        requireRange(x, -GREATEST_MICROPHONE_X, GREATEST_MICROPHONE_X);
        requireRange(y, LEAST_MICROPHONE_Y, GREATEST_MICROPHONE_Y);
        requireRange(height, 0, GREATEST_HEIGHT);
        requireRange(weight, 0, GREATEST_WEIGHT);
        return requireRoom(scene.putMicrophone(x, y, height, weight));
    }

    public int setWeight(int microphone, int weight) throws IndexOutOfBoundsException, IllegalArgumentException {
        Microphone changed = requireMicrophone(microphone);
        requireRange(weight, 0, GREATEST_WEIGHT);
        int previous = changed.weight;
        changed.weight = weight;
        return previous;
    }

    public int count(int what) throws IllegalArgumentException {
        switch (what) {
            case 0:
                return scene.vehicleCount;
            case 1:
                return scene.sourceCount;
            case 2:
                return scene.microphoneCount;
            case 3:
                return scene.recordings;
            default:
                throw new IllegalArgumentException("nothing with this number is counted");
        }
    }

    // ---- paths and the recording

    public int emitted(int source, int time) throws IndexOutOfBoundsException, IllegalArgumentException {
        Source sounding = requireSource(source);
        requireTime(time);
        return sounding.valueAt(time);
    }

    public int distance(int microphone, int source, int time, boolean reflected)
            throws IndexOutOfBoundsException, IllegalArgumentException {
        layPath(microphone, source, reflected);
        requireTime(time);
        return path.lengthAt(time);
    }

    public int emissionTime(int microphone, int source, int sample, boolean reflected)
            throws IndexOutOfBoundsException, IllegalArgumentException {
        layPath(microphone, source, reflected);
        requireTime(sample);
        return path.latestTime(sample, scene.soundSpeed);
    }

    public int passTime(int vehicle, int microphone) throws IndexOutOfBoundsException {
        requireNumber(vehicle, scene.vehicleCount);
        Microphone passed = requireMicrophone(microphone);
        return scene.vehicles[vehicle].timeNearestTo(passed.x);
    }

    public int makeRecording() {
        scene.recordAll(path);
        return scene.recordings;
    }

    public int sample(int microphone, int sample) throws IndexOutOfBoundsException, IllegalArgumentException {
        Microphone asked = requireMicrophone(microphone);
        requireTime(sample);
        return asked.record[sample];
    }

    public long measureRecord(int microphone, int measure, int first, int last)
            throws IndexOutOfBoundsException, IllegalArgumentException {
        Microphone measured = requireMicrophone(microphone);
        requireRange(measure, ENERGY, CROSSINGS);
        requireWindow(first, last);
        return Signal.measured(measured.record, measure, first, last);
    }

    public int loudestMicrophone(int first, int last) throws IllegalArgumentException {
        requireWindow(first, last);
        int loudest = NONE;
        long greatest = -1;
        for (int number = 0; number < scene.microphoneCount; number++) {
            long energy = Signal.energyOf(scene.microphones[number].record, first, last);
            if (energy > greatest) {
                greatest = energy;
                loudest = number;
            }
        }
        return loudest;
    }

    public int loudestWindow(int microphone, int width) throws IndexOutOfBoundsException, IllegalArgumentException {
        int[] record = requireMicrophone(microphone).record;
        requireRange(width, 1, TIMES);
        int loudest = 0;
        long greatest = -1;
        for (int first = 0; first <= TIMES - width; first++) {
            long energy = Signal.energyOf(record, first, first + width - 1);
            if (energy > greatest) {
                greatest = energy;
                loudest = first;
            }
        }
        return loudest;
    }

    public long correlation(int microphone, int other, int lag)
            throws IndexOutOfBoundsException, IllegalArgumentException {
        int[] one = requireMicrophone(microphone).record;
        int[] another = requireMicrophone(other).record;
        requireRange(lag, 1 - TIMES, TIMES - 1);
        return Signal.productSum(one, another, lag);
    }

    public int bestLag(int microphone, int other, int greatest)
            throws IndexOutOfBoundsException, IllegalArgumentException {
        int[] one = requireMicrophone(microphone).record;
        int[] another = requireMicrophone(other).record;
        requireRange(greatest, 0, TIMES - 1);
        int best = 0;
        long bestSum = Long.MIN_VALUE;
        for (int turn = 1; turn <= 2 * greatest + 1; turn++) {
            int lag = outward(turn);
            long sum = Signal.productSum(one, another, lag);
            if (sum > bestSum) {
                bestSum = sum;
                best = lag;
            }
        }
        return best;
    }

    // ---- the focus

    public void focusOnVehicle(int vehicle, int offset, int height)
            throws IndexOutOfBoundsException, IllegalArgumentException {
        requireNumber(vehicle, scene.vehicleCount);
        requireRange(offset, -GREATEST_OFFSET, GREATEST_OFFSET);
        requireRange(height, 0, GREATEST_HEIGHT);
        scene.focus.ride(scene.vehicles[vehicle], offset, height);
        scene.focusIsDirection = false;
    }

    public void focusOnPlace(int x, int y, int height) throws IllegalArgumentException {
        requireRange(x, -GREATEST_TRACK_X, GREATEST_TRACK_X);
        requireRange(y, LEAST_TRACK_Y, GREATEST_TRACK_Y);
        requireRange(height, 0, GREATEST_HEIGHT);
        scene.focus.put(x, 0, y, height);
        scene.focusIsDirection = false;
    }

    public void focusOnDirection(int direction) throws IllegalArgumentException {
        requireRange(direction, -GREATEST_DIRECTION, GREATEST_DIRECTION);
        scene.direction = direction;
        scene.focusIsDirection = true;
    }

    public boolean setCut(boolean on) {
        boolean previous = scene.cut;
        scene.cut = on;
        return previous;
    }

    public int sampleNumber(int microphone, int time) throws IndexOutOfBoundsException, IllegalArgumentException {
        Microphone asked = requireMicrophone(microphone);
        requireTime(time);
        return former.sampleNumberAt(scene, asked, time);
    }

    public int part(int microphone, int time) throws IndexOutOfBoundsException, IllegalArgumentException {
        Microphone asked = requireMicrophone(microphone);
        requireTime(time);
        return former.partAt(scene, asked, time);
    }

    // ---- beams

    public int beam(int time) throws IllegalArgumentException {
        requireTime(time);
        return former.formBeam(scene, 0, time, time)[time];
    }

    public long measureBeam(int measure, int first, int last) throws IllegalArgumentException {
        requireRange(measure, ENERGY, CROSSINGS);
        requireWindow(first, last);
        return Signal.measured(former.formBeam(scene, 0, first, last), measure, first, last);
    }

    public long periodPower(int period, int first, int last) throws IllegalArgumentException {
        requireRange(period, 1, GREATEST_PERIOD);
        requireWindow(first, last);
        return Signal.powerOf(former.formBeam(scene, 0, first, last), period, first, last);
    }

    public int bestPeriod(int greatest, int first, int last) throws IllegalArgumentException {
        requireRange(greatest, 1, GREATEST_PERIOD);
        requireWindow(first, last);
        int[] signal = former.formBeam(scene, 0, first, last);
        int best = 1;
        long bestStrength = -1;
        for (int period = 1; period <= greatest; period++) {
            long strength = Signal.periodStrength(signal, period, first, last);
            if (strength > bestStrength) {
                bestStrength = strength;
                best = period;
            }
        }
        return best;
    }

    public long energyBeside(int by, int first, int last) throws IllegalArgumentException {
        requireRange(by, -GREATEST_BESIDE, GREATEST_BESIDE);
        requireWindow(first, last);
        return Signal.energyOf(former.formBeam(scene, by, first, last), first, last);
    }

    public int scan(int step, int steps, int first, int last) throws IllegalArgumentException {
        requireRange(step, 1, GREATEST_STEP);
        requireRange(steps, 0, GREATEST_STEPS);
        requireWindow(first, last);
        int best = 0;
        long bestEnergy = -1;
        for (int turn = 1; turn <= 2 * steps + 1; turn++) {
            int number = outward(turn);
            int[] signal = former.formBeam(scene, number * step, first, last);
            long energy = Signal.energyOf(signal, first, last);
            if (energy > bestEnergy) {
                bestEnergy = energy;
                best = number;
            }
        }
        return best;
    }

    public int bestDirection(int step, int first, int last) throws IllegalArgumentException {
        requireRange(step, 1, GREATEST_STEP);
        requireWindow(first, last);
        int best = -GREATEST_DIRECTION;
        long bestEnergy = -1;
        for (int direction = -GREATEST_DIRECTION; direction <= GREATEST_DIRECTION; direction += step) {
            int[] signal = former.formDirectionBeam(scene, direction, first, last);
            long energy = Signal.energyOf(signal, first, last);
            if (energy > bestEnergy) {
                bestEnergy = energy;
                best = direction;
            }
        }
        return best;
    }

    public long spectrum(int direction, int period, int first, int last) throws IllegalArgumentException {
        requireRange(direction, -GREATEST_DIRECTION, GREATEST_DIRECTION);
        requireRange(period, 1, GREATEST_PERIOD);
        requireWindow(first, last);
        int[] signal = former.formDirectionBeam(scene, direction, first, last);
        return Signal.periodStrength(signal, period, first, last);
    }

    public double meanPower(int first, int last) throws IllegalArgumentException {
        requireWindow(first, last);
        return Signal.meanPowerOf(former.formBeam(scene, 0, first, last), first, last);
    }

    public float crest(int first, int last) throws IllegalArgumentException {
        requireWindow(first, last);
        return Signal.crestOf(former.formBeam(scene, 0, first, last), first, last);
    }

    // ---- setup texts

    public int appendText(int fourBytes) throws IllegalStateException {
        return requireRoom(text.append(fourBytes));
    }

    public int truncateText(int length) throws IllegalArgumentException {
        requireRange(length, 0, text.length);
        text.length = length;
        return length;
    }

    public int load() {
        int statements = reader.read(text, draft);
        text.length = 0;
        if (statements != NONE) {
            scene.copyFrom(draft);
        }
        return statements;
    }

    public int errorCode() {
        return reader.code;
    }

    public int errorPosition() {
        return reader.position;
    }

    // ---- saved states

    public void save(int slot) throws IllegalArgumentException {
        requireRange(slot, 0, SLOTS - 1);
        savedScenes[slot].copyFrom(scene);
        slotFilled[slot] = true;
    }

    public void restore(int slot) throws IllegalArgumentException, IllegalStateException {
        requireRange(slot, 0, SLOTS - 1);
        if (!slotFilled[slot]) {
            throw new IllegalStateException("nothing is saved there");
        }
        scene.copyFrom(savedScenes[slot]);
    }

    // ---- what the methods of the face share

    private static void requireRange(int value, int least, int greatest) {
        if (value < least || value > greatest) {
            throw new IllegalArgumentException("out of range");
        }
    }

    private static void requireTime(int time) {
        requireRange(time, 0, TIMES - 1);
    }

    private static void requireWindow(int first, int last) {
        requireTime(first);
        requireRange(last, first, TIMES - 1);
    }

    private static void requireNumber(int number, int amount) {
        if (number < 0 || number >= amount) {
            throw new IndexOutOfBoundsException("nothing has this number");
        }
    }

    /** Passes on what a method answered that says NONE when there is no room left. */
    private static int requireRoom(int answer) {
        if (answer == NONE) {
            throw new IllegalStateException("there are as many as possible");
        }
        return answer;
    }

    private Source requireSource(int number) {
        requireNumber(number, scene.sourceCount);
        return scene.sources[number];
    }

    private Microphone requireMicrophone(int number) {
        requireNumber(number, scene.microphoneCount);
        return scene.microphones[number];
    }

    private void layPath(int microphone, int source, boolean reflected) {
        Microphone hearing = requireMicrophone(microphone);
        Source sounding = requireSource(source);
        path.lay(sounding.place, 0, hearing, reflected);
    }

    /** The numbers 0, -1, 1, -2, 2 and so on at the turns 1, 2, 3, 4, 5: of equally good ones the first is due. */
    private static int outward(int turn) {
        return turn % 2 == 0 ? -(turn / 2) : turn / 2;
    }

    private static long quotient(long dividend, long divisor) {
        return divisor == 0 ? 0 : dividend / divisor;
    }

    private static int elementAt(int[] row, int index) {
        return index < 0 || index >= row.length ? 0 : row[index];
    }

    /** The square root, rounded down, digit by digit: doubles have no exact one here. */
    private static int root(long square) {
        long rest = square;
        long root = 0;
        for (long digit = 1L << 32; digit != 0; digit >>= 2) {
            if (rest >= root + digit) {
                rest -= root + digit;
                root = (root >> 1) + digit;
            } else {
                root >>= 1;
            }
        }
        return (int) root;
    }

    /** A place that moves along the track. */
    private static final class Place {
        int x;
        int speed;
        int y;
        int height;

        void put(int newX, int newSpeed, int newY, int newHeight) {
            x = newX;
            speed = newSpeed;
            y = newY;
            height = newHeight;
        }

        void ride(Place vehicle, int offset, int newHeight) {
            put(vehicle.x + offset, vehicle.speed, vehicle.y, newHeight);
        }

        void copyFrom(Place other) {
            put(other.x, other.speed, other.y, other.height);
        }

        int timeNearestTo(int otherX) {
            int nearest = 0;
            int least = Integer.MAX_VALUE;
            for (int time = 0; time < TIMES; time++) {
                int apart = Math.abs(x + speed * time - otherX);
                if (apart < least) {
                    least = apart;
                    nearest = time;
                }
            }
            return nearest;
        }
    }

    /** What sounds on a vehicle; it keeps its own place, for vehicles never change. */
    private static final class Source {
        final Place place = new Place();
        final int[] pattern = new int[PATTERN_LENGTH];
        int patternLength;
        int strength;

        /** Returns the length of the pattern then, NONE if it was full. */
        int append(int value) {
            if (patternLength < 0 || patternLength >= pattern.length) {
                return NONE;
            }
            pattern[patternLength] = value;
            patternLength++;
            return patternLength;
        }

        int valueAt(int time) {
            if (patternLength == 0) {
                return 0;
            }
            return elementAt(pattern, time % patternLength) * strength;
        }

        void copyFrom(Source other) {
            place.copyFrom(other.place);
            System.arraycopy(other.pattern, 0, pattern, 0, PATTERN_LENGTH);
            patternLength = other.patternLength;
            strength = other.strength;
        }
    }

    private static final class Microphone {
        final int[] record = new int[TIMES];
        int x;
        int y;
        int height;
        int weight;

        void copyFrom(Microphone other) {
            System.arraycopy(other.record, 0, record, 0, TIMES);
            x = other.x;
            y = other.y;
            height = other.height;
            weight = other.weight;
        }
    }

    /** The way of sound from a place to a microphone. */
    private static final class Path {
        private long along;
        private long speed;
        private long squareBeside;

        void lay(Place place, int shift, Microphone microphone, boolean reflected) {
            long across = place.y - microphone.y;
            long height = reflected ? -place.height : place.height;
            long up = height - microphone.height;
            along = place.x + shift - microphone.x;
            speed = place.speed;
            squareBeside = across * across + up * up;
        }

        int lengthAt(int time) {
            long apart = along + speed * time;
            return root(apart * apart + squareBeside);
        }

        int markAt(int time, int soundSpeed) {
            return time * soundSpeed + lengthAt(time);
        }

        /** The first sample at or behind the arrival mark of a time. */
        int sampleAt(int time, int soundSpeed) {
            return time + (int) quotient(lengthAt(time) + soundSpeed - 1, soundSpeed);
        }

        /** The time whose sound is heard at a sample; nothing arrives before it is emitted. */
        int latestTime(int sample, int soundSpeed) {
            for (int time = sample; time >= 0; time--) {
                if (markAt(time, soundSpeed) <= sample * soundSpeed) {
                    return time;
                }
            }
            return NONE;
        }
    }

    /** All that is saved and restored. */
    private static final class Scene {
        final Place[] vehicles = new Place[VEHICLES];
        final Source[] sources = new Source[SOURCES];
        final Microphone[] microphones = new Microphone[MICROPHONES];
        final Place focus = new Place();
        int vehicleCount;
        int sourceCount;
        int microphoneCount;
        int soundSpeed;
        int ground;
        int noiseLevel;
        long randomState;
        boolean spreading;
        int recordings;
        boolean focusIsDirection;
        int direction;
        boolean cut;

        Scene() {
            for (int number = 0; number < VEHICLES; number++) {
                vehicles[number] = new Place();
            }
            for (int number = 0; number < SOURCES; number++) {
                sources[number] = new Source();
            }
            for (int number = 0; number < MICROPHONES; number++) {
                microphones[number] = new Microphone();
            }
            clear();
        }

        /** Makes everything as it is in a new array. */
        void clear() {
            vehicleCount = 0;
            sourceCount = 0;
            microphoneCount = 0;
            soundSpeed = 340;
            ground = 0;
            noiseLevel = 0;
            randomState = 1;
            spreading = false;
            recordings = 0;
            focus.put(0, 0, 100, 0);
            focusIsDirection = false;
            direction = 0;
            cut = false;
        }

        void copyFrom(Scene other) {
            for (int number = 0; number < VEHICLES; number++) {
                vehicles[number].copyFrom(other.vehicles[number]);
            }
            for (int number = 0; number < SOURCES; number++) {
                sources[number].copyFrom(other.sources[number]);
            }
            for (int number = 0; number < MICROPHONES; number++) {
                microphones[number].copyFrom(other.microphones[number]);
            }
            vehicleCount = other.vehicleCount;
            sourceCount = other.sourceCount;
            microphoneCount = other.microphoneCount;
            soundSpeed = other.soundSpeed;
            ground = other.ground;
            noiseLevel = other.noiseLevel;
            randomState = other.randomState;
            spreading = other.spreading;
            recordings = other.recordings;
            focus.copyFrom(other.focus);
            focusIsDirection = other.focusIsDirection;
            direction = other.direction;
            cut = other.cut;
        }

        /** Returns the number of the vehicle, NONE if there is no room. */
        int putVehicle(int x, int speed, int y) {
            int number = vehicleCount;
            if (number < 0 || number >= vehicles.length) {
                return NONE;
            }
            vehicles[number].put(x, speed, y, 0);
            vehicleCount++;
            return number;
        }

        /** Returns the number of the source, NONE if there is no room or no such vehicle. */
        int putSource(int vehicle, int offset, int height, int strength, int value) {
            int number = sourceCount;
            if (number < 0 || number >= sources.length || vehicle < 0 || vehicle >= vehicleCount) {
                return NONE;
            }
            Source source = sources[number];
            source.place.ride(vehicles[vehicle], offset, height);
            source.strength = strength;
            source.patternLength = 0;
            source.append(value);
            sourceCount++;
            return number;
        }

        /** Returns the number of the microphone, NONE if there is no room. */
        int putMicrophone(int x, int y, int height, int weight) {
            int number = microphoneCount;
            if (number < 0 || number >= microphones.length) {
                return NONE;
            }
            Microphone microphone = microphones[number];
            microphone.x = x;
            microphone.y = y;
            microphone.height = height;
            microphone.weight = weight;
            Arrays.fill(microphone.record, 0);
            microphoneCount++;
            return number;
        }

        void recordAll(Path path) {
            for (int number = 0; number < microphoneCount; number++) {
                Microphone microphone = microphones[number];
                recordNoise(microphone.record);
                for (int source = 0; source < sourceCount; source++) {
                    recordPath(sources[source], microphone, path, false);
                    recordPath(sources[source], microphone, path, true);
                }
            }
            recordings++;
        }

        private void recordNoise(int[] record) {
            for (int sample = 0; sample < record.length; sample++) {
                record[sample] = noiseLevel == 0 ? 0 : draw(2 * noiseLevel + 1) - noiseLevel;
            }
        }

        private int draw(int amount) {
            randomState = (randomState * 1103515245L + 12345L) % 2147483648L;
            return amount == 0 ? 0 : (int) (randomState / 65536 % amount);
        }

        /** Arrival marks rise with the time (sound is faster than vehicles), so the latest time only moves on. */
        private void recordPath(Source source, Microphone microphone, Path path, boolean reflected) {
            path.lay(source.place, 0, microphone, reflected);
            int next = 0;
            int nextMark = path.markAt(next, soundSpeed);
            int heard = 0;
            for (int sample = 0; sample < TIMES; sample++) {
                while (next < TIMES && nextMark <= sample * soundSpeed) {
                    heard = amountOf(source.valueAt(next), path.lengthAt(next), reflected);
                    next++;
                    nextMark = path.markAt(next, soundSpeed);
                }
                microphone.record[sample] += heard;
            }
        }

        private int amountOf(int value, int length, boolean reflected) {
            long amount = spreading ? quotient(value * 1000L, 1000 + length) : value;
            return (int) (reflected ? amount * ground / 100 : amount);
        }
    }

    /** Forms beams in rows of its own, which are used again for each beam. */
    private static final class BeamFormer {
        private final int[] beamRow = new int[TIMES];
        private final int[] parts = new int[TIMES];
        private final Path direct = new Path();
        private final Path mirrored = new Path();

        /** The beam for the focus of the scene, changed by a number; it stands in the window only. */
        int[] formBeam(Scene scene, int by, int first, int last) {
            if (scene.focusIsDirection) {
                return formDirectionBeam(scene, scene.direction + by, first, last);
            }
            Arrays.fill(beamRow, 0);
            for (int number = 0; number < scene.microphoneCount; number++) {
                Microphone microphone = scene.microphones[number];
                takePlaceParts(scene, microphone, by, first, last);
                addParts(microphone.weight, first, last);
            }
            return beamRow;
        }

        int[] formDirectionBeam(Scene scene, int direction, int first, int last) {
            Arrays.fill(beamRow, 0);
            for (int number = 0; number < scene.microphoneCount; number++) {
                Microphone microphone = scene.microphones[number];
                takeDirectionParts(scene, microphone, direction, first, last);
                addParts(microphone.weight, first, last);
            }
            return beamRow;
        }

        int partAt(Scene scene, Microphone microphone, int time) {
            if (scene.focusIsDirection) {
                takeDirectionParts(scene, microphone, scene.direction, time, time);
            } else {
                takePlaceParts(scene, microphone, 0, time, time);
            }
            return parts[time];
        }

        int sampleNumberAt(Scene scene, Microphone microphone, int time) {
            if (scene.focusIsDirection) {
                return time + directionShift(scene, microphone, scene.direction);
            }
            direct.lay(scene.focus, 0, microphone, false);
            return direct.sampleAt(time, scene.soundSpeed);
        }

        private void addParts(int weight, int first, int last) {
            for (int time = first; time <= last; time++) {
                beamRow[time] += weight * parts[time];
            }
        }

        private void takeDirectionParts(Scene scene, Microphone microphone, int direction, int first, int last) {
            int shift = directionShift(scene, microphone, direction);
            for (int time = first; time <= last; time++) {
                parts[time] = elementAt(microphone.record, time + shift);
            }
        }

        private static int directionShift(Scene scene, Microphone microphone, int direction) {
            int divisor = 100 * scene.soundSpeed;
            return divisor == 0 ? 0 : Math.floorDiv(microphone.x * direction, divisor);
        }

        private void takePlaceParts(Scene scene, Microphone microphone, int by, int first, int last) {
            direct.lay(scene.focus, by, microphone, false);
            if (scene.cut) {
                mirrored.lay(scene.focus, by, microphone, true);
                takeCutParts(scene, microphone.record, last);
                return;
            }
            for (int time = first; time <= last; time++) {
                parts[time] = elementAt(microphone.record, direct.sampleAt(time, scene.soundSpeed));
            }
        }

        /** A cut part rests on earlier ones, so all are taken from the time 0 on. */
        private void takeCutParts(Scene scene, int[] record, int last) {
            int soundSpeed = scene.soundSpeed;
            int next = 0;
            int nextMark = mirrored.markAt(next, soundSpeed);
            for (int time = 0; time <= last; time++) {
                int sample = direct.sampleAt(time, soundSpeed);
                while (next <= time && nextMark <= sample * soundSpeed) {
                    next++;
                    nextMark = mirrored.markAt(next, soundSpeed);
                }
                parts[time] = elementAt(record, sample);
                if (sample < TIMES && next > 0 && next <= time) {
                    parts[time] -= reflectedPart(scene, next - 1);
                }
            }
        }

        private int reflectedPart(Scene scene, int time) {
            long amount = parts[time];
            if (scene.spreading) {
                amount = quotient(amount * (1000 + direct.lengthAt(time)), 1000 + mirrored.lengthAt(time));
            }
            return (int) (amount * scene.ground / 100);
        }
    }

    /** Measures of a row in a window that the caller has tested. */
    private static final class Signal {
        static long measured(int[] row, int measure, int first, int last) {
            switch (measure) {
                case ENERGY:
                    return energyOf(row, first, last);
                case PEAK:
                    return peakOf(row, first, last);
                case LEVEL:
                    return binaryDigits(energyOf(row, first, last));
                case SUM:
                    return sumOf(row, first, last, 1);
                default:
                    return crossingsOf(row, first, last);
            }
        }

        static long energyOf(int[] row, int first, int last) {
            long energy = 0;
            for (int time = first; time <= last; time++) {
                energy += (long) row[time] * row[time];
            }
            return energy;
        }

        private static int peakOf(int[] row, int first, int last) {
            int peak = 0;
            for (int time = first; time <= last; time++) {
                peak = Math.max(peak, Math.abs(row[time]));
            }
            return peak;
        }

        private static int binaryDigits(long number) {
            int digits = 0;
            while (digits < 63 && number >> digits != 0) {
                digits++;
            }
            return digits;
        }

        private static long sumOf(int[] row, int first, int last, int step) {
            long sum = 0;
            for (int time = first; time <= last; time += step) {
                sum += row[time];
            }
            return sum;
        }

        private static int crossingsOf(int[] row, int first, int last) {
            int crossings = 0;
            for (int time = first + 1; time <= last; time++) {
                if (signOf(row[time]) != signOf(row[time - 1])) {
                    crossings++;
                }
            }
            return crossings;
        }

        private static int signOf(int value) {
            if (value == 0) {
                return 0;
            }
            return value < 0 ? -1 : 1;
        }

        static long powerOf(int[] row, int period, int first, int last) {
            long power = 0;
            for (int index = 0; index < period; index++) {
                long sum = sumOf(row, first + index, last, period);
                power += sum * sum;
            }
            return power;
        }

        static long periodStrength(int[] row, int period, int first, int last) {
            return quotient(powerOf(row, period, first, last) * period, last - first + 1);
        }

        static double meanPowerOf(int[] row, int first, int last) {
            int amount = last - first + 1;
            return amount == 0 ? 0.0 : (double) energyOf(row, first, last) / (double) amount;
        }

        static float crestOf(int[] row, int first, int last) {
            double mean = meanPowerOf(row, first, last);
            if (mean == 0.0) {
                return 0.0f;
            }
            double peak = peakOf(row, first, last);
            return (float) (peak * peak / mean);
        }

        static long productSum(int[] one, int[] other, int lag) {
            long sum = 0;
            for (int sample = 0; sample < one.length; sample++) {
                sum += (long) one[sample] * elementAt(other, sample + lag);
            }
            return sum;
        }
    }

    private static final class TextBuffer {
        private final int[] bytes = new int[TEXT_LENGTH];
        int length;

        /** Returns the length then, NONE if the bytes have no room. */
        int append(int fourBytes) {
            if (length < 0 || length > bytes.length - 4) {
                return NONE;
            }
            bytes[length] = fourBytes >> 24 & 255;
            bytes[length + 1] = fourBytes >> 16 & 255;
            bytes[length + 2] = fourBytes >> 8 & 255;
            bytes[length + 3] = fourBytes & 255;
            length += 4;
            return length;
        }

        /** Returns NONE behind the text, so that a run of one kind of byte ends there. */
        int byteAt(int index) {
            return index < 0 || index >= length || index >= bytes.length ? NONE : bytes[index];
        }

        boolean holds(String word, int start, int end) {
            if (end - start != word.length()) {
                return false;
            }
            for (int index = 0; index < word.length(); index++) {
                if (byteAt(start + index) != word.charAt(index)) {
                    return false;
                }
            }
            return true;
        }
    }

    /** The tokens of a text; words that no setup knows and bytes of no token are WRONG ones. */
    private static final class Tokens {
        static final int END = 0;
        static final int WRONG = 1;
        static final int SEMICOLON = 2;
        static final int MINUS = 3;
        static final int NUMBER = 4;
        static final int MIC = 5;
        static final int VEHICLE = 6;
        static final int SOURCE = 7;
        static final int SOUND = 8;
        static final int GROUND = 9;
        static final int NOISE = 10;
        static final int SPREADING = 11;

        /** Above every range, and far from an overflow: longer numbers stay here. */
        private static final int HUGE = 1000000;

        private final int[] kinds = new int[TEXT_LENGTH + 1];
        private final int[] starts = new int[TEXT_LENGTH + 1];
        private final int[] values = new int[TEXT_LENGTH + 1];
        private int amount;

        int kindAt(int index) {
            return index < 0 || index >= kinds.length ? END : kinds[index];
        }

        int startAt(int index) {
            return elementAt(starts, index);
        }

        int valueAt(int index) {
            return elementAt(values, index);
        }

        /** The last token is an END one, which starts where the text ends. */
        void split(TextBuffer text) {
            amount = 0;
            int start = 0;
            for (int turn = 0; turn < TEXT_LENGTH && start < text.length; turn++) {
                int sign = text.byteAt(start);
                if (isLetter(sign)) {
                    start = takeWord(text, start);
                } else if (isDigit(sign)) {
                    start = takeNumber(text, start);
                } else {
                    takeSign(sign, start);
                    start++;
                }
            }
            append(END, text.length, 0);
        }

        private void append(int kind, int start, int value) {
            if (amount < 0 || amount >= kinds.length) {
                return;
            }
            kinds[amount] = kind;
            starts[amount] = start;
            values[amount] = value;
            amount++;
        }

        private void takeSign(int sign, int start) {
            if (sign == ' ' || sign == '\n') {
                return;
            }
            append(sign == ';' ? SEMICOLON : sign == '-' ? MINUS : WRONG, start, 0);
        }

        /** Returns the index behind the number. */
        private int takeNumber(TextBuffer text, int start) {
            int end = start;
            int value = 0;
            while (end < text.length && isDigit(text.byteAt(end))) {
                value = Math.min(value * 10 + text.byteAt(end) - '0', HUGE);
                end++;
            }
            append(NUMBER, start, value);
            return end;
        }

        /** Returns the index behind the word. */
        private int takeWord(TextBuffer text, int start) {
            int end = start;
            while (end < text.length && isLetter(text.byteAt(end))) {
                end++;
            }
            append(kindOfWord(text, start, end), start, 0);
            return end;
        }

        private static int kindOfWord(TextBuffer text, int start, int end) {
            if (text.holds("mic", start, end)) {
                return MIC;
            }
            if (text.holds("vehicle", start, end)) {
                return VEHICLE;
            }
            if (text.holds("source", start, end)) {
                return SOURCE;
            }
            if (text.holds("sound", start, end)) {
                return SOUND;
            }
            if (text.holds("ground", start, end)) {
                return GROUND;
            }
            if (text.holds("noise", start, end)) {
                return NOISE;
            }
            return text.holds("spreading", start, end) ? SPREADING : WRONG;
        }

        private static boolean isLetter(int sign) {
            return sign >= 'a' && sign <= 'z';
        }

        private static boolean isDigit(int sign) {
            return sign >= '0' && sign <= '9';
        }
    }

    /** Reads a setup into a scene; its methods answer false once a token is wrong. */
    private static final class SetupReader {
        private static final int ARGUMENTS_BEFORE_VALUES = 4;

        int code;
        int position = NONE;
        private final Tokens tokens = new Tokens();
        private int at;
        private final int[] arguments = new int[ARGUMENTS_BEFORE_VALUES + PATTERN_LENGTH];
        private int argumentCount;

        /** Returns the number of statements, NONE after an error. */
        int read(TextBuffer text, Scene scene) {
            code = 0;
            position = NONE;
            at = 0;
            tokens.split(text);
            scene.clear();
            for (int statements = 0; statements <= TEXT_LENGTH; statements++) {
                if (tokens.kindAt(at) == Tokens.END) {
                    return statements;
                }
                if (!readStatement(scene) || !readSemicolon()) {
                    position = tokens.startAt(at);
                    return NONE;
                }
            }
            return NONE;
        }

        private boolean fail(int newCode) {
            code = newCode;
            return false;
        }

        private boolean readSemicolon() {
            if (tokens.kindAt(at) != Tokens.SEMICOLON) {
                return fail(WRONG_TOKEN);
            }
            at++;
            return true;
        }

        private boolean readStatement(Scene scene) {
            argumentCount = 0;
            int kind = tokens.kindAt(at);
            switch (kind) {
                case Tokens.MIC:
                    return readMicrophone(scene);
                case Tokens.VEHICLE:
                    return readVehicle(scene);
                case Tokens.SOURCE:
                    return readSource(scene);
                case Tokens.SOUND:
                case Tokens.GROUND:
                case Tokens.NOISE:
                case Tokens.SPREADING:
                    at++;
                    return readSetting(scene, kind);
                default:
                    return fail(WRONG_TOKEN);
            }
        }

        private boolean readSetting(Scene scene, int kind) {
            boolean right = true;
            if (kind == Tokens.SOUND) {
                right = readNumber(LEAST_SOUND, GREATEST_SOUND);
                scene.soundSpeed = right ? arguments[0] : scene.soundSpeed;
            } else if (kind == Tokens.GROUND) {
                right = readInteger(-GREATEST_GROUND, GREATEST_GROUND);
                scene.ground = right ? arguments[0] : scene.ground;
            } else if (kind == Tokens.NOISE) {
                right = readNumber(0, GREATEST_NOISE);
                scene.noiseLevel = right ? arguments[0] : scene.noiseLevel;
            } else {
                scene.spreading = true;
            }
            return right;
        }

        private boolean readMicrophone(Scene scene) {
            boolean right = readWord(scene.microphoneCount, MICROPHONES)
                    && readInteger(-GREATEST_MICROPHONE_X, GREATEST_MICROPHONE_X)
                    && readInteger(LEAST_MICROPHONE_Y, GREATEST_MICROPHONE_Y)
                    && readNumber(0, GREATEST_HEIGHT)
                    && readNumber(0, GREATEST_WEIGHT);
            if (right) {
                scene.putMicrophone(arguments[0], arguments[1], arguments[2], arguments[3]);
            }
            return right;
        }

        private boolean readVehicle(Scene scene) {
            boolean right = readWord(scene.vehicleCount, VEHICLES)
                    && readInteger(-GREATEST_TRACK_X, GREATEST_TRACK_X)
                    && readInteger(-GREATEST_SPEED, GREATEST_SPEED)
                    && readInteger(LEAST_TRACK_Y, GREATEST_TRACK_Y);
            if (right) {
                scene.putVehicle(arguments[0], arguments[1], arguments[2]);
            }
            return right;
        }

        /** It reads no more values than a pattern can hold: behind them only a semicolon is right. */
        private boolean readSource(Scene scene) {
            boolean right = readWord(scene.sourceCount, SOURCES)
                    && readNumber(0, scene.vehicleCount - 1)
                    && readInteger(-GREATEST_OFFSET, GREATEST_OFFSET)
                    && readNumber(0, GREATEST_HEIGHT)
                    && readNumber(1, GREATEST_STRENGTH)
                    && readInteger(-GREATEST_VALUE, GREATEST_VALUE);
            for (int length = 1; right && length < PATTERN_LENGTH && isAtInteger(); length++) {
                right = readInteger(-GREATEST_VALUE, GREATEST_VALUE);
            }
            if (right) {
                scene.putSource(arguments[0], arguments[1], arguments[2], arguments[3], arguments[4]);
                putMoreValues(scene);
            }
            return right;
        }

        private void putMoreValues(Scene scene) {
            int number = scene.sourceCount - 1;
            if (number < 0 || number >= SOURCES) {
                return;
            }
            for (int index = ARGUMENTS_BEFORE_VALUES + 1; index < argumentCount; index++) {
                scene.sources[number].append(elementAt(arguments, index));
            }
        }

        private boolean isAtInteger() {
            int kind = tokens.kindAt(at);
            return kind == Tokens.NUMBER || kind == Tokens.MINUS;
        }

        private boolean readWord(int present, int most) {
            if (present >= most) {
                return fail(NO_ROOM);
            }
            at++;
            return true;
        }

        private boolean readInteger(int least, int greatest) {
            if (tokens.kindAt(at) != Tokens.MINUS) {
                return takeArgument(tokens.valueAt(at), least, greatest);
            }
            at++;
            return takeArgument(-tokens.valueAt(at), least, greatest);
        }

        private boolean readNumber(int least, int greatest) {
            return takeArgument(tokens.valueAt(at), least, greatest);
        }

        private boolean takeArgument(int value, int least, int greatest) {
            if (tokens.kindAt(at) != Tokens.NUMBER || argumentCount < 0 || argumentCount >= arguments.length) {
                return fail(WRONG_TOKEN);
            }
            if (value < least || value > greatest) {
                return fail(OUT_OF_RANGE);
            }
            arguments[argumentCount] = value;
            argumentCount++;
            at++;
            return true;
        }
    }
}
