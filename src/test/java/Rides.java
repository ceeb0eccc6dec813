/** Objects in the states from which tests start. */
final class Rides {
    private Rides() {
    }

    /** In FULL at place 0, with no limit and no fall; end in tens. The time of its message is 0. */
    static TrainGuard full(int emergency, int service, int length, int end, int overlap) {
        return started(new TrainGuard(emergency, service, length),
                Telegram.of(3, 0).authority(end, overlap, 0).profile(0, 127));
    }

    /** In ON SIGHT at place 0, which is asked; end in tens. The time of its message is 0. */
    static TrainGuard onSight(int end) {
        return started(new TrainGuard(20, 10, 100), Telegram.of(3, 0).authority(end, 0, 1).profile(0, 127));
    }

    /** Takes the message and starts. */
    static TrainGuard started(TrainGuard guard, Telegram telegram) {
        if (telegram.to(guard) != 0 || !guard.driver(0)) {
            throw new IllegalStateException("the ride did not start");
        }
        return guard;
    }

    static TrainGuard staff() {
        TrainGuard guard = new TrainGuard(20, 10, 100);
        guard.driver(0);
        return guard;
    }

    static TrainGuard tripped() {
        TrainGuard guard = new TrainGuard(20, 10, 100);
        Telegram.stop(0).to(guard);
        return guard;
    }

    static TrainGuard postTrip() {
        TrainGuard guard = tripped();
        guard.driver(2);
        return guard;
    }

    static TrainGuard failed() {
        TrainGuard guard = new TrainGuard(20, 10, 100);
        guard.cycle(-1);
        return guard;
    }

    /** Goes on with pulses of 2, of which each raises LOW by 1 and HIGH by 3. */
    static void creep(TrainGuard guard, int cycles) {
        for (int i = 0; i < cycles; i++) {
            guard.cycle(2);
        }
    }
}
