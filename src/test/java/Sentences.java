import java.util.function.Supplier;

/** Tests of single sentences, each with a Says; SentencesTest runs them. */
abstract class Sentences {
    static final int MIN = Integer.MIN_VALUE;
    static final int MAX = Integer.MAX_VALUE;
    static final Class<IllegalArgumentException> ILLEGAL = IllegalArgumentException.class;
    static final Class<IndexOutOfBoundsException> OUTSIDE = IndexOutOfBoundsException.class;
    static final Class<IllegalStateException> REFUSED = IllegalStateException.class;

    interface Call {
        void on(TrackArray x);
    }

    interface NumberCall {
        void on(TrackArray x, int number);
    }

    interface WindowCall {
        void on(TrackArray x, int first, int last);
    }

    interface Asking {
        long in(int first, int last);
    }

    Checks c;

    final void refuses(Class<? extends RuntimeException> due, Call... calls) {
        refuses(due, Scenes::rich, calls);
    }

    /** Each of the calls throws this, and nothing shows afterwards that there was one. */
    final void refuses(Class<? extends RuntimeException> due, Supplier<TrackArray> make, Call... calls) {
        TrackArray x = make.get();
        for (int k = 0; k < calls.length; k++) {
            Call call = calls[k];
            c.dueThrow("call " + (k + 1), due, () -> call.on(x));
        }
        c.same("what is left after refused calls", Fingerprint.of(x), Fingerprint.of(make.get()));
    }

    final void refuses(Class<? extends RuntimeException> due, NumberCall call, int... numbers) {
        refuses(due, Scenes::rich, call, numbers);
    }

    final void refuses(Class<? extends RuntimeException> due, Supplier<TrackArray> make, NumberCall call,
            int... numbers) {
        TrackArray x = make.get();
        for (int number : numbers) {
            c.dueThrow("a call with " + number, due, () -> call.on(x, number));
        }
        c.same("what is left after refused calls", Fingerprint.of(x), Fingerprint.of(make.get()));
    }

    final void refusesVehicles(NumberCall call) {
        refusesNumbers(call, 2, 4);
    }

    final void refusesSources(NumberCall call) {
        refusesNumbers(call, 2, 6);
    }

    final void refusesMicrophones(NumberCall call) {
        refusesNumbers(call, 3, 8);
    }

    private void refusesNumbers(NumberCall call, int inRich, int inCrammed) {
        refuses(OUTSIDE, Scenes::rich, call, -1, inRich, inRich + 1, MIN, MAX);
        refuses(OUTSIDE, Scenes::crammed, call, -1, inCrammed, MIN, MAX);
        refuses(OUTSIDE, TrackArray::new, call, -1, 0, 1, MIN, MAX);
    }

    /** The three ways in which a window can be out of range, alone and together. */
    final void refusesWindows(WindowCall call) {
        int[][] bad = {{-1, 0}, {-1, 255}, {MIN, 255}, {0, 256}, {255, 256}, {0, MAX}, {1, 0}, {255, 254}, {255, 0},
            {0, -1}, {-1, -1}, {256, 256}, {-1, 256}, {256, 255}, {MIN, MAX}, {MAX, MIN}, {MIN, MIN}, {MAX, MAX}};
        TrackArray x = Scenes.rich();
        for (int[] each : bad) {
            c.illegal("the window " + each[0] + " to " + each[1], () -> call.on(x, each[0], each[1]));
        }
        c.same("what is left after refused windows", Fingerprint.of(x), Fingerprint.of(Scenes.rich()));
    }

    /** Windows with each first time that is an edge, up to the last time of all. */
    final void firstTimes(Asking got, Asking due) {
        for (int first : new int[] {0, 1, 100, 254, 255}) {
            c.due("from " + first + " on", got.in(first, 255), due.in(first, 255));
        }
    }

    final void lastTimes(Asking got, Asking due) {
        for (int last : new int[] {0, 1, 100, 254, 255}) {
            c.due("up to " + last, got.in(0, last), due.in(0, last));
        }
    }

    // ---- what is due, in the words of MEASURES

    static long energy(int[] row, int first, int last) {
        long sum = 0;
        for (int time = first; time <= last; time++) {
            sum += (long) row[time] * row[time];
        }
        return sum;
    }

    static int peak(int[] row, int first, int last) {
        int peak = 0;
        for (int time = first; time <= last; time++) {
            peak = Math.max(peak, Math.abs(row[time]));
        }
        return peak;
    }

    static long power(int[] row, int period, int first, int last) {
        long[] folded = new long[period];
        for (int time = first; time <= last; time++) {
            folded[(time - first) % period] += row[time];
        }
        long sum = 0;
        for (long each : folded) {
            sum += each * each;
        }
        return sum;
    }

    static long strength(int[] row, int period, int first, int last) {
        return power(row, period, first, last) * period / (last - first + 1);
    }
}
