/** Objects in the states from which tests start. */
final class Rides {
    private Rides() {
    }

    /** In FULL at place 0, with no limit and no fall; end in tens. The time of its message is 0. */
    static TrainGuard full(int emergency, int service, int length, int end, int overlap) {
        return started(new TrainGuard(emergency, service, length),
                Telegram.of(3, 0).authority(end, overlap, 0).profile(0, 127));
    }

    /** In ON SIGHT at place 0, which is asked; end in tens. The time of its message is 0. */
    static TrainGuard onSight(int end) {
        return started(new TrainGuard(20, 10, 100), Telegram.of(3, 0).authority(end, 0, 1).profile(0, 127));
    }

    /** Takes the message and starts. */
    static TrainGuard started(TrainGuard guard, Telegram telegram) {
        if (telegram.to(guard) != 0 || !guard.driver(0)) {
            throw new IllegalStateException("the ride did not start");
        }
        return guard;
    }

    static TrainGuard staff() {
        TrainGuard guard = new TrainGuard(20, 10, 100);
        guard.driver(0);
        return guard;
    }

    static TrainGuard tripped() {
        TrainGuard guard = new TrainGuard(20, 10, 100);
        Telegram.stop(0).to(guard);
        return guard;
    }

    static TrainGuard postTrip() {
        TrainGuard guard = tripped();
        guard.driver(2);
        return guard;
    }

    static TrainGuard failed() {
        TrainGuard guard = new TrainGuard(20, 10, 100);
        guard.cycle(-1);
        return guard;
    }

    /** Goes on with pulses of 2, of which each raises LOW by 1 and HIGH by 3. */
    static void creep(TrainGuard guard, int cycles) {
        for (int i = 0; i < cycles; i++) {
            guard.cycle(2);
        }
    }

    /** Goes on slowly until HIGH is as given, which must be more than 1 above what it is. */
    static void highTo(TrainGuard guard, int high) {
        int left = high - guard.state(1);
        while (left > 560) {
            guard.cycle(500);
            left -= 532;
        }
        while (left > 0) {
            int pulses = left % 3 == 0 ? 2 : 1;
            guard.cycle(pulses);
            left -= pulses + 1;
        }
        must(guard.state(1) == high, "HIGH is not " + high);
    }

    /** Goes on until LOW is as given, with the help of a mark that its own message tells; few cycles are wanted. */
    static void lowTo(TrainGuard guard, int time, int low) {
        int place = (low + 9) / 10;
        must(Telegram.of(24, time).marks(place, 1, 10 * place - low).to(guard) == 0, "the mark was not taken");
        while (guard.state(1) < low) {
            guard.cycle(Math.min(500, low - guard.state(0)));
        }
        must(guard.mark(1) && guard.state(0) == low, "LOW is not " + low);
    }

    /** The pulses of a cycle after which TOP is as given. */
    static int pulsesFor(int top) {
        for (int pulses = 0; pulses <= 500; pulses++) {
            if (top == (pulses == 0 ? 0 : pulses + 1 + pulses / 16)) {
                return pulses;
            }
        }
        throw new IllegalStateException("TOP is never " + top);
    }

    /** Goes on until HIGH and TOP are as given, the last of all cycles with such a TOP. */
    static TrainGuard at(TrainGuard guard, int high, int top) {
        highTo(guard, high - top);
        guard.cycle(pulsesFor(top));
        must(guard.state(1) == high && guard.state(2) == top, "HIGH " + high + " or TOP " + top + " is not so");
        return guard;
    }

    static TrainGuard inMode(int mode) {
        switch (mode) {
            case 1:
                return staff();
            case 2:
                return full(20, 10, 100, 300, 0);
            case 3:
                return onSight(300);
            case 4:
                return tripped();
            case 5:
                return postTrip();
            case 6:
                return failed();
            default:
                return new TrainGuard(20, 10, 100);
        }
    }

    private static void must(boolean holds, String otherwise) {
        if (!holds) {
            throw new IllegalStateException(otherwise);
        }
    }
}
