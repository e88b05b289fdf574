import java.math.BigInteger;
import java.nio.charset.StandardCharsets;
import java.util.ArrayList;
import java.util.List;

/** The document again, as plainly and slowly as it can be said: what TrackArray is compared with. */
public final class Model {
    static final class Vehicle {
        int x;
        int speed;
        int y;
    }

    static final class Source {
        int vehicle;
        int offset;
        int height;
        int strength;
        List<Integer> pattern = new ArrayList<>();
    }

    static final class Mic {
        int x;
        int y;
        int height;
        int weight;
        int[] record = new int[256];
    }

    static final class State {
        List<Vehicle> vehicles = new ArrayList<>();
        List<Source> sources = new ArrayList<>();
        List<Mic> mics = new ArrayList<>();
        int c = 340;
        int ground = 0;
        boolean spreading = false;
        BigInteger random = BigInteger.ONE;
        int noise = 0;
        int recordings = 0;
        /** "place", "riding" or "direction", and its numbers. */
        String focus = "place";
        int focusVehicle;
        int focusAlong = 0;
        int focusY = 100;
        int focusHeight = 0;
        boolean cut = false;

        State copy() {
            State s = new State();
            for (Vehicle v : vehicles) {
                s.vehicles.add(v);
            }
            for (Source o : sources) {
                Source n = new Source();
                n.vehicle = o.vehicle;
                n.offset = o.offset;
                n.height = o.height;
                n.strength = o.strength;
                n.pattern = new ArrayList<>(o.pattern);
                s.sources.add(n);
            }
            for (Mic o : mics) {
                Mic n = new Mic();
                n.x = o.x;
                n.y = o.y;
                n.height = o.height;
                n.weight = o.weight;
                n.record = o.record.clone();
                s.mics.add(n);
            }
            s.c = c;
            s.ground = ground;
            s.spreading = spreading;
            s.random = random;
            s.noise = noise;
            s.recordings = recordings;
            s.focus = focus;
            s.focusVehicle = focusVehicle;
            s.focusAlong = focusAlong;
            s.focusY = focusY;
            s.focusHeight = focusHeight;
            s.cut = cut;
            return s;
        }
    }

    private State s = new State();
    private final State[] saved = new State[2];
    private byte[] text = new byte[0];
    private int code = 0;
    private int position = -1;

    // ---- refusals

    private static void range(long value, long least, long most) {
        if (!(least <= value && value <= most)) {
            throw new IllegalArgumentException();
        }
    }

    private static void window(int first, int last) {
        if (first < 0 || last > 255 || last < first) {
            throw new IllegalArgumentException();
        }
    }

    private static <T> T get(List<T> list, int number) {
        if (number < 0 || number >= list.size()) {
            throw new IndexOutOfBoundsException();
        }
        return list.get(number);
    }

    // ---- setting up

    public int setSound(int speed) {
        range(speed, 100, 1000);
        int old = s.c;
        s.c = speed;
        return old;
    }

    public int setGround(int percent) {
        range(percent, -90, 90);
        int old = s.ground;
        s.ground = percent;
        return old;
    }

    public boolean setSpreading(boolean on) {
        boolean old = s.spreading;
        s.spreading = on;
        return old;
    }

    public void setNoise(int seed, int level) {
        range(seed, 0, 2147483647);
        range(level, 0, 99);
        s.random = BigInteger.valueOf(seed);
        s.noise = level;
    }

    public int addVehicle(int x, int speed, int y) {
        range(x, -20000, 20000);
        range(speed, -50, 50);
        range(y, 100, 5000);
        if (s.vehicles.size() == 4) {
            throw new IllegalStateException();
        }
        Vehicle v = new Vehicle();
        v.x = x;
        v.speed = speed;
        v.y = y;
        s.vehicles.add(v);
        return s.vehicles.size() - 1;
    }

    public int addSource(int vehicle, int offset, int height, int strength, int value) {
        get(s.vehicles, vehicle);
        range(offset, -1000, 1000);
        range(height, 0, 500);
        range(strength, 1, 10);
        range(value, -99, 99);
        if (s.sources.size() == 6) {
            throw new IllegalStateException();
        }
        Source o = new Source();
        o.vehicle = vehicle;
        o.offset = offset;
        o.height = height;
        o.strength = strength;
        o.pattern.add(value);
        s.sources.add(o);
        return s.sources.size() - 1;
    }

    public int addValue(int source, int value) {
        Source o = get(s.sources, source);
        range(value, -99, 99);
        if (o.pattern.size() == 16) {
            throw new IllegalStateException();
        }
        o.pattern.add(value);
        return o.pattern.size();
    }

    public int addMicrophone(int x, int y, int height, int weight) {
        range(x, -5000, 5000);
        range(y, -100, 99);
        range(height, 0, 500);
        range(weight, 0, 9);
        if (s.mics.size() == 8) {
            throw new IllegalStateException();
        }
        Mic m = new Mic();
        m.x = x;
        m.y = y;
        m.height = height;
        m.weight = weight;
        s.mics.add(m);
        return s.mics.size() - 1;
    }

    public int setWeight(int microphone, int weight) {
        Mic m = get(s.mics, microphone);
        range(weight, 0, 9);
        int old = m.weight;
        m.weight = weight;
        return old;
    }

    public int count(int what) {
        range(what, 0, 3);
        return new int[] {s.vehicles.size(), s.sources.size(), s.mics.size(), s.recordings}[what];
    }

    // ---- paths and the recording

    private static int distanceOf(long dx, long dy, long dz) {
        long square = dx * dx + dy * dy + dz * dz;
        int root = (int) Math.sqrt((double) square);
        while ((long) root * root > square) {
            root--;
        }
        while ((root + 1L) * (root + 1L) <= square) {
            root++;
        }
        return root;
    }

    private int sourceDistance(Mic m, Source o, int t, boolean reflected) {
        Vehicle v = s.vehicles.get(o.vehicle);
        int height = reflected ? -o.height : o.height;
        return distanceOf(v.x + v.speed * t + o.offset - m.x, v.y - m.y, height - m.height);
    }

    private int heardTime(Mic m, Source o, int n, boolean reflected) {
        int found = -1;
        for (int t = 0; t <= 255; t++) {
            if (t * s.c + sourceDistance(m, o, t, reflected) <= n * s.c) {
                found = t;
            }
        }
        return found;
    }

    public int emitted(int source, int time) {
        Source o = get(s.sources, source);
        range(time, 0, 255);
        return o.pattern.get(time % o.pattern.size()) * o.strength;
    }

    public int distance(int microphone, int source, int time, boolean reflected) {
        Mic m = get(s.mics, microphone);
        Source o = get(s.sources, source);
        range(time, 0, 255);
        return sourceDistance(m, o, time, reflected);
    }

    public int emissionTime(int microphone, int source, int sample, boolean reflected) {
        Mic m = get(s.mics, microphone);
        Source o = get(s.sources, source);
        range(sample, 0, 255);
        return heardTime(m, o, sample, reflected);
    }

    public int passTime(int vehicle, int microphone) {
        Vehicle v = get(s.vehicles, vehicle);
        Mic m = get(s.mics, microphone);
        int best = 0;
        for (int t = 1; t <= 255; t++) {
            if (Math.abs(v.x + v.speed * t - m.x) < Math.abs(v.x + v.speed * best - m.x)) {
                best = t;
            }
        }
        return best;
    }

    private int draw(int m) {
        BigInteger modulus = BigInteger.valueOf(2147483648L);
        s.random = s.random.multiply(BigInteger.valueOf(1103515245)).add(BigInteger.valueOf(12345)).mod(modulus);
        return s.random.divide(BigInteger.valueOf(65536)).mod(BigInteger.valueOf(m)).intValueExact();
    }

    public int makeRecording() {
        for (Mic m : s.mics) {
            for (int n = 0; n <= 255; n++) {
                int noise = s.noise == 0 ? 0 : draw(2 * s.noise + 1) - s.noise;
                m.record[n] = noise;
            }
        }
        for (Mic m : s.mics) {
            for (Source o : s.sources) {
                for (int n = 0; n <= 255; n++) {
                    int t = heardTime(m, o, n, false);
                    if (t >= 0) {
                        m.record[n] += amount(m, o, t, false);
                    }
                    int u = heardTime(m, o, n, true);
                    if (u >= 0) {
                        m.record[n] += amount(m, o, u, true) * s.ground / 100;
                    }
                }
            }
        }
        return ++s.recordings;
    }

    private int amount(Mic m, Source o, int t, boolean reflected) {
        int e = o.pattern.get(t % o.pattern.size()) * o.strength;
        return s.spreading ? e * 1000 / (1000 + sourceDistance(m, o, t, reflected)) : e;
    }

    public int sample(int microphone, int sample) {
        Mic m = get(s.mics, microphone);
        range(sample, 0, 255);
        return m.record[sample];
    }

    // ---- measures

    private static long energy(int[] signal, int first, int last) {
        long sum = 0;
        for (int t = first; t <= last; t++) {
            sum += (long) signal[t] * signal[t];
        }
        return sum;
    }

    private static long measure(int[] signal, int measure, int first, int last) {
        long peak = 0;
        long sum = 0;
        long crossings = 0;
        for (int t = first; t <= last; t++) {
            peak = Math.max(peak, Math.abs(signal[t]));
            sum += signal[t];
            if (t > first && Integer.signum(signal[t]) != Integer.signum(signal[t - 1])) {
                crossings++;
            }
        }
        long energy = energy(signal, first, last);
        long level = energy == 0 ? 0 : Long.toBinaryString(energy).length();
        return new long[] {energy, peak, level, sum, crossings}[measure];
    }

    private static long power(int[] signal, int p, int first, int last) {
        long[] sums = new long[p];
        for (int t = first; t <= last; t++) {
            sums[(t - first) % p] += signal[t];
        }
        long power = 0;
        for (long sum : sums) {
            power += sum * sum;
        }
        return power;
    }

    private static long strength(int[] signal, int p, int first, int last) {
        return power(signal, p, first, last) * p / (last - first + 1);
    }

    public long measureRecord(int microphone, int measure, int first, int last) {
        Mic m = get(s.mics, microphone);
        range(measure, 0, 4);
        window(first, last);
        return measure(m.record, measure, first, last);
    }

    public int loudestMicrophone(int first, int last) {
        window(first, last);
        int best = -1;
        for (int k = s.mics.size() - 1; k >= 0; k--) {
            if (best < 0 || energy(s.mics.get(k).record, first, last) >= energy(s.mics.get(best).record, first, last)) {
                best = k;
            }
        }
        return best;
    }

    public int loudestWindow(int microphone, int width) {
        Mic m = get(s.mics, microphone);
        range(width, 1, 256);
        int best = 256 - width;
        for (int first = best - 1; first >= 0; first--) {
            if (energy(m.record, first, first + width - 1) >= energy(m.record, best, best + width - 1)) {
                best = first;
            }
        }
        return best;
    }

    private static long product(int[] a, int[] b, int lag) {
        long sum = 0;
        for (int n = 0; n <= 255; n++) {
            if (n + lag >= 0 && n + lag <= 255) {
                sum += (long) a[n] * b[n + lag];
            }
        }
        return sum;
    }

    public long correlation(int microphone, int other, int lag) {
        Mic a = get(s.mics, microphone);
        Mic b = get(s.mics, other);
        range(lag, -255, 255);
        return product(a.record, b.record, lag);
    }

    /** True if the number a comes before b where both are equally good. */
    private static boolean nearer(int a, int b) {
        return Math.abs(a) < Math.abs(b) || Math.abs(a) == Math.abs(b) && a < b;
    }

    public int bestLag(int microphone, int other, int greatest) {
        Mic a = get(s.mics, microphone);
        Mic b = get(s.mics, other);
        range(greatest, 0, 255);
        int best = -greatest;
        long bestSum = product(a.record, b.record, best);
        for (int lag = -greatest; lag <= greatest; lag++) {
            long sum = product(a.record, b.record, lag);
            if (sum > bestSum || sum == bestSum && nearer(lag, best)) {
                best = lag;
                bestSum = sum;
            }
        }
        return best;
    }

    // ---- the focus

    public void focusOnVehicle(int vehicle, int offset, int height) {
        get(s.vehicles, vehicle);
        range(offset, -1000, 1000);
        range(height, 0, 500);
        s.focus = "riding";
        s.focusVehicle = vehicle;
        s.focusAlong = offset;
        s.focusHeight = height;
    }

    public void focusOnPlace(int x, int y, int height) {
        range(x, -20000, 20000);
        range(y, 100, 5000);
        range(height, 0, 500);
        s.focus = "place";
        s.focusAlong = x;
        s.focusY = y;
        s.focusHeight = height;
    }

    public void focusOnDirection(int direction) {
        range(direction, -100, 100);
        s.focus = "direction";
        s.focusAlong = direction;
    }

    public boolean setCut(boolean on) {
        boolean old = s.cut;
        s.cut = on;
        return old;
    }

    private int focusDistance(Mic m, int t, int along, boolean reflected) {
        int x = along;
        int y = s.focusY;
        if (s.focus.equals("riding")) {
            Vehicle v = s.vehicles.get(s.focusVehicle);
            x = v.x + v.speed * t + along;
            y = v.y;
        }
        return distanceOf(x - m.x, y - m.y, (reflected ? -s.focusHeight : s.focusHeight) - m.height);
    }

    private int placeSample(Mic m, int t, int along) {
        int mark = t * s.c + focusDistance(m, t, along, false);
        int n = 0;
        while (n * s.c < mark) {
            n++;
        }
        return n;
    }

    private int directionSample(Mic m, int t, int direction) {
        return t + (int) Math.floor((double) (m.x * direction) / (100 * s.c));
    }

    public int sampleNumber(int microphone, int time) {
        Mic m = get(s.mics, microphone);
        range(time, 0, 255);
        return s.focus.equals("direction")
                ? directionSample(m, time, s.focusAlong) : placeSample(m, time, s.focusAlong);
    }

    /** A part; those that were found already stand in the row. */
    private long placePart(Mic m, int t, int along, Long[] found) {
        if (found[t] != null) {
            return found[t];
        }
        int n = placeSample(m, t, along);
        long part = 0;
        if (n <= 255) {
            part = m.record[n];
            int u = s.cut ? latestReflected(m, n, along) : -1;
            if (u >= 0 && u < t) {
                long taken = placePart(m, u, along, found);
                if (s.spreading) {
                    taken = taken * (1000 + focusDistance(m, u, along, false));
                    taken = taken / (1000 + focusDistance(m, u, along, true));
                }
                part -= taken * s.ground / 100;
            }
        }
        found[t] = part;
        return part;
    }

    private int latestReflected(Mic m, int n, int along) {
        for (int u = 255; u >= 0; u--) {
            if (u * s.c + focusDistance(m, u, along, true) <= n * s.c) {
                return u;
            }
        }
        return -1;
    }

    private static int at(int[] record, int n) {
        return n < 0 || n > 255 ? 0 : record[n];
    }

    public int part(int microphone, int time) {
        Mic m = get(s.mics, microphone);
        range(time, 0, 255);
        if (s.focus.equals("direction")) {
            return at(m.record, directionSample(m, time, s.focusAlong));
        }
        return (int) placePart(m, time, s.focusAlong, new Long[256]);
    }

    // ---- beams

    private int[] beamRow(String focus, int along) {
        int[] row = new int[256];
        for (Mic m : s.mics) {
            Long[] found = new Long[256];
            for (int t = 0; t <= 255; t++) {
                long part = focus.equals("direction")
                        ? at(m.record, directionSample(m, t, along)) : placePart(m, t, along, found);
                row[t] += (int) part * m.weight;
            }
        }
        return row;
    }

    private int[] beamRow() {
        return beamRow(s.focus, s.focusAlong);
    }

    public int beam(int time) {
        range(time, 0, 255);
        return beamRow()[time];
    }

    public long measureBeam(int measure, int first, int last) {
        range(measure, 0, 4);
        window(first, last);
        return measure(beamRow(), measure, first, last);
    }

    public long periodPower(int period, int first, int last) {
        range(period, 1, 64);
        window(first, last);
        return power(beamRow(), period, first, last);
    }

    public int bestPeriod(int greatest, int first, int last) {
        range(greatest, 1, 64);
        window(first, last);
        int[] row = beamRow();
        int best = greatest;
        for (int p = greatest; p >= 1; p--) {
            if (strength(row, p, first, last) >= strength(row, best, first, last)) {
                best = p;
            }
        }
        return best;
    }

    public long energyBeside(int by, int first, int last) {
        range(by, -2000, 2000);
        window(first, last);
        return energy(beamRow(s.focus, s.focusAlong + by), first, last);
    }

    public int scan(int step, int steps, int first, int last) {
        range(step, 1, 100);
        range(steps, 0, 20);
        window(first, last);
        int best = -steps;
        long bestEnergy = energyBeside(best * step, first, last);
        for (int k = -steps; k <= steps; k++) {
            long energy = energyBeside(k * step, first, last);
            if (energy > bestEnergy || energy == bestEnergy && nearer(k, best)) {
                best = k;
                bestEnergy = energy;
            }
        }
        return best;
    }

    public int bestDirection(int step, int first, int last) {
        range(step, 1, 100);
        window(first, last);
        int best = -100;
        long bestEnergy = energy(beamRow("direction", best), first, last);
        for (int d = -100; d <= 100; d += step) {
            long energy = energy(beamRow("direction", d), first, last);
            if (energy > bestEnergy) {
                best = d;
                bestEnergy = energy;
            }
        }
        return best;
    }

    public long spectrum(int direction, int period, int first, int last) {
        range(direction, -100, 100);
        range(period, 1, 64);
        window(first, last);
        return strength(beamRow("direction", direction), period, first, last);
    }

    public double meanPower(int first, int last) {
        window(first, last);
        return (double) energy(beamRow(), first, last) / (double) (last - first + 1);
    }

    public float crest(int first, int last) {
        window(first, last);
        int[] row = beamRow();
        if (energy(row, first, last) == 0) {
            return 0;
        }
        double peak = (double) measure(row, 1, first, last);
        return (float) (peak * peak / ((double) energy(row, first, last) / (double) (last - first + 1)));
    }

    // ---- setup texts

    public int appendText(int fourBytes) {
        if (text.length + 4 > 500) {
            throw new IllegalStateException();
        }
        byte[] longer = java.util.Arrays.copyOf(text, text.length + 4);
        System.arraycopy(java.nio.ByteBuffer.allocate(4).putInt(fourBytes).array(), 0, longer, text.length, 4);
        text = longer;
        return text.length;
    }

    public int truncateText(int length) {
        range(length, 0, text.length);
        text = java.util.Arrays.copyOf(text, length);
        return length;
    }

    static final class Wrong extends Exception {
        private static final long serialVersionUID = 1;
        final int code;

        Wrong(int code) {
            this.code = code;
        }
    }

    private String rest;
    private String token;

    /** Cuts the next token off the rest; "" at the end. */
    private void next() {
        rest = rest.substring(token.length()).replaceFirst("^[ \n]+", "");
        token = rest.replaceFirst("(?s)^([a-z]+|[0-9]+|.).*$", "$1");
    }

    private void need(boolean right, int wrongCode) throws Wrong {
        if (!right) {
            throw new Wrong(wrongCode);
        }
    }

    private int number(int least, int most) throws Wrong {
        return signed(1, least, most);
    }

    private int integer(int least, int most) throws Wrong {
        if (token.equals("-")) {
            next();
            return signed(-1, least, most);
        }
        return signed(1, least, most);
    }

    private int signed(int sign, int least, int most) throws Wrong {
        need(token.matches("[0-9]+"), 1);
        BigInteger value = new BigInteger(token).multiply(BigInteger.valueOf(sign));
        need(value.compareTo(BigInteger.valueOf(least)) >= 0 && value.compareTo(BigInteger.valueOf(most)) <= 0, 2);
        next();
        return value.intValueExact();
    }

    private void statement() throws Wrong {
        String word = token;
        need(java.util.Set.of("mic", "vehicle", "source", "sound", "ground", "noise", "spreading").contains(word), 1);
        need(!(word.equals("mic") && s.mics.size() == 8), 3);
        need(!(word.equals("vehicle") && s.vehicles.size() == 4), 3);
        need(!(word.equals("source") && s.sources.size() == 6), 3);
        next();
        switch (word) {
            case "mic" -> addMicrophone(integer(-5000, 5000), integer(-100, 99), number(0, 500), number(0, 9));
            case "vehicle" -> addVehicle(integer(-20000, 20000), integer(-50, 50), integer(100, 5000));
            case "source" -> {
                int source = addSource(number(0, s.vehicles.size() - 1), integer(-1000, 1000), number(0, 500),
                        number(1, 10), integer(-99, 99));
                while (!token.equals(";")) {
                    need(s.sources.get(source).pattern.size() < 16, 1);
                    addValue(source, integer(-99, 99));
                }
            }
            case "sound" -> setSound(number(100, 1000));
            case "ground" -> setGround(integer(-90, 90));
            case "noise" -> s.noise = number(0, 99);
            default -> setSpreading(true);
        }
        need(token.equals(";"), 1);
        next();
    }

    public int load() {
        State old = s;
        s = new State();
        rest = new String(text, StandardCharsets.ISO_8859_1);
        int length = rest.length();
        text = new byte[0];
        token = "";
        code = 0;
        position = -1;
        int statements = 0;
        try {
            next();
            while (!token.isEmpty()) {
                statement();
                statements++;
            }
            return statements;
        } catch (Wrong wrong) {
            s = old;
            code = wrong.code;
            position = length - rest.length();
            return -1;
        }
    }

    public int errorCode() {
        return code;
    }

    public int errorPosition() {
        return position;
    }

    // ---- saved states

    public void save(int slot) {
        range(slot, 0, 1);
        saved[slot] = s.copy();
    }

    public void restore(int slot) {
        range(slot, 0, 1);
        if (saved[slot] == null) {
            throw new IllegalStateException();
        }
        s = saved[slot].copy();
    }
}
