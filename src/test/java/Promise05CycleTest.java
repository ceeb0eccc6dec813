/** Promise 5: the way, the trips, the brakes and the command of a cycle. */
public final class Promise05CycleTest {
    private static final Check CHECK = new Check("Promise05CycleTest");

    public static void main(String[] args) {
        way();
        failing();
        staysFailed();
        missedMarks();
        missedMarksElsewhere();
        endOfAuthority();
        endOfStaff();
        serviceBrake();
        emergencyBrake();
        brakesAtRest();
        ceilingsOfOtherModes();
        askedBrake();
        askedAnew();
        CHECK.end();
    }

    private static void way() {
        int[] pulses = {0, 1, 2, 15, 16, 31, 32, 499, 500};
        int[] uncertain = {0, 1, 1, 1, 2, 2, 3, 32, 32};
        for (int i = 0; i < pulses.length; i++) {
            TrainGuard guard = new TrainGuard(20, 10, 100);
            guard.cycle(pulses[i]);
            guard.cycle(pulses[i]);
            CHECK.due("LOW after 2 * " + pulses[i], 2 * (pulses[i] - uncertain[i]), guard.state(0));
            CHECK.due("HIGH after 2 * " + pulses[i], 2 * (pulses[i] + uncertain[i]), guard.state(1));
            CHECK.due("TOP after " + pulses[i], pulses[i] + uncertain[i], guard.state(2));
            CHECK.due("the cycle's number", 2, guard.state(5));
            guard.cycle(0);
            CHECK.due("TOP at rest", 0, guard.state(2));
        }
    }

    private static void failing() {
        int[] wrong = {-1, 501, Integer.MIN_VALUE, Integer.MAX_VALUE};
        for (int pulses : wrong) {
            TrainGuard guard = Rides.staff();
            guard.cycle(40);
            CHECK.due("cycle(" + pulses + ")", 2, guard.cycle(pulses));
            CHECK.due("FAILED", 6, guard.mode());
            CHECK.due("LOW stays", 37, guard.state(0));
            CHECK.due("HIGH stays", 43, guard.state(1));
            CHECK.due("TOP stays", 43, guard.state(2));
            CHECK.due("the cycle's number", 2, guard.state(5));
            CHECK.dueNotes("the mode, then the command", guard, 700, 101, 20106, 20202);
        }
    }

    private static void staysFailed() {
        TrainGuard guard = Rides.full(20, 10, 0, 10, 0);
        Telegram.of(24, 1).marks(1, 1, 0).to(guard);
        guard.cycle(-1);
        CHECK.due("at rest", 2, guard.cycle(0));
        CHECK.due("on the way", 2, guard.cycle(400));
        CHECK.due("FAILED", 6, guard.mode());
        CHECK.due("no way is counted", 0, guard.state(1));
        CHECK.due("cycles are", 3, guard.state(5));
        CHECK.due("the authority stays", 100, guard.display(2));
        CHECK.due("the marks stay", 10004, guard.marks(0));
        CHECK.dueNotes("no more notes", guard, 324, 10106, 10202);
    }

    /** After 40 pulses LOW is 37. */
    private static void missedMarks() {
        TrainGuard at = Rides.full(20, 10, 0, 300, 0);
        Telegram.of(24, 1).marks(3, 1, 7).to(at);
        at.cycle(40);
        CHECK.due("LOW at place + accuracy", 2, at.mode());
        CHECK.due("not passed", 30004, at.marks(0));
        TrainGuard above = Rides.full(20, 10, 0, 300, 0);
        Telegram.of(24, 1).marks(2, 2, 0, 3, 1, 6, 4, 3, 0).to(above);
        CHECK.due("LOW above place + accuracy", 2, above.cycle(40));
        CHECK.due("it trips", 4, above.mode());
        CHECK.dueNotes("one fault, no note of marks", above, 324, 10600, 10104, 10202);
        CHECK.due("no authority", -1, above.display(2));
        TrainGuard passed = Rides.full(20, 10, 0, 300, 0);
        Telegram.of(24, 1).marks(0, 2, 0).to(passed);
        passed.mark(2);
        passed.cycle(40);
        CHECK.due("a passed mark is no fault", 2, passed.mode());
        TrainGuard both = Rides.full(20, 10, 0, 3, 0);
        Telegram.of(24, 1).marks(2, 2, 0).to(both);
        both.cycle(40);
        CHECK.dueNotes("a missed mark comes before END", both, 10600, 10104, 10202);
    }

    private static void missedMarksElsewhere() {
        TrainGuard onSight = Rides.onSight(300);
        Telegram.of(24, 1).marks(3, 1, 6).to(onSight);
        onSight.cycle(40);
        CHECK.due("it trips in ON SIGHT", 4, onSight.mode());
        CHECK.due("nothing is asked any more", 0, onSight.state(4));
        TrainGuard staff = Rides.staff();
        Telegram.of(24, 1).marks(3, 1, 6).to(staff);
        staff.cycle(40);
        CHECK.due("not in STAFF", 1, staff.mode());
        CHECK.due("not passed there", 30004, staff.marks(0));
        CHECK.due("no note there", 324, staff.note(0));
        Telegram.of(3, 2).authority(300, 0, 0).profile(0, 127).to(staff);
        staff.cycle(0);
        CHECK.due("but in FULL, even at rest", 4, staff.mode());
    }

    private static void endOfAuthority() {
        TrainGuard full = Rides.full(20, 10, 0, 1, 1000);
        Rides.creep(full, 10);
        CHECK.due("LOW at END", 2, full.mode());
        Rides.creep(full, 1);
        CHECK.due("LOW above END", 4, full.mode());
        CHECK.dueNotes("no fault of marks", full, 110104, 110202);
        TrainGuard onSight = Rides.onSight(1);
        Rides.creep(onSight, 10);
        CHECK.due("LOW at END", 3, onSight.mode());
        Rides.creep(onSight, 1);
        CHECK.due("LOW above END", 4, onSight.mode());
        TrainGuard staff = Rides.staff();
        Telegram.of(3, 0).authority(1, 0, 0).to(staff);
        Rides.creep(staff, 20);
        CHECK.due("END is nothing in STAFF", 1, staff.mode());
        TrainGuard standing = new TrainGuard(20, 10, 0);
        Telegram.of(3, 0).authority(1, 0, 0).profile(0, 9).to(standing);
        Rides.creep(standing, 20);
        CHECK.due("nor in STAND BY", 0, standing.mode());
    }

    private static void endOfStaff() {
        TrainGuard guard = Rides.staff();
        Rides.lowTo(guard, 1, 3000);
        guard.cycle(0);
        CHECK.due("LOW at the STAFF END", 1, guard.mode());
        Rides.creep(guard, 1);
        CHECK.due("LOW above the STAFF END", 4, guard.mode());
        guard.cycle(0);
        guard.driver(2);
        guard.driver(0);
        int end = guard.state(1) + 3000;
        CHECK.due("STAFF again", 1, guard.mode());
        Rides.lowTo(guard, 2, end);
        guard.cycle(0);
        CHECK.due("LOW at the new STAFF END", 1, guard.mode());
        Rides.creep(guard, 1);
        CHECK.due("LOW above the new STAFF END", 4, guard.mode());
    }

    /** In STAFF the ceiling is 80; pulses of 75, 76, 79, 80, 82, 83 make TOP 80, 81, 84, 86, 88, 89. */
    private static void serviceBrake() {
        TrainGuard guard = Rides.staff();
        CHECK.due("grade 0", 0, guard.cycle(75));
        CHECK.due("grade 1", 0, guard.cycle(76));
        CHECK.due("grade 2", 0, guard.cycle(79));
        CHECK.due("grade 3", 1, guard.cycle(80));
        CHECK.due("grade 2 again", 1, guard.cycle(79));
        CHECK.due("grade 1 again", 1, guard.cycle(76));
        CHECK.due("grade 0 again", 0, guard.cycle(75));
        CHECK.due("off since", 0, guard.cycle(79));
        CHECK.due("grade 3, the greatest TOP", 1, guard.cycle(82));
        CHECK.due("at rest", 0, guard.cycle(0));
        CHECK.dueNotes("each change", guard, 101, 40201, 70200, 90201, 100200);
    }

    private static void emergencyBrake() {
        TrainGuard guard = Rides.staff();
        CHECK.due("grade 4", 2, guard.cycle(83));
        CHECK.due("grade 3", 2, guard.cycle(82));
        CHECK.due("grade 0", 2, guard.cycle(75));
        CHECK.due("nearly at rest", 2, guard.cycle(1));
        CHECK.due("at rest", 0, guard.cycle(0));
        CHECK.due("off since", 0, guard.cycle(75));
        CHECK.dueNotes("each change", guard, 101, 10202, 50200);
        TrainGuard tripped = Rides.tripped();
        CHECK.due("in TRIP", 2, tripped.cycle(0));
        CHECK.due("in TRIP at rest", 2, tripped.cycle(0));
        tripped.driver(2);
        CHECK.due("no change without a cycle", 2, tripped.state(3));
        CHECK.due("in POST TRIP at rest", 0, tripped.cycle(0));
    }

    /** At rest at HIGH the emergency curve reaches to HIGH + 6, and the service curve to HIGH + 12 + 6. */
    private static void brakesAtRest() {
        TrainGuard guard = Rides.full(4, 2, 0, 1, 0);
        CHECK.due("grade 3 at rest", 1, guard.cycle(0));
        CHECK.due("and it stays", 1, guard.cycle(0));
        Telegram.of(3, 1).authority(0, 0, 0).to(guard);
        CHECK.due("grade 4 at rest", 2, guard.cycle(0));
        Telegram.of(3, 2).authority(1, 0, 0).to(guard);
        CHECK.due("grade 3, the emergency brake goes off", 1, guard.cycle(0));
        Telegram.of(3, 3).authority(2, 0, 0).to(guard);
        CHECK.due("grade 0, the service brake goes off", 0, guard.cycle(0));
    }

    private static void ceilingsOfOtherModes() {
        int[] pulses = {0, 2, 3, 5, 7, 8};
        int[] grades = {0, 1, 2, 3, 3, 4};
        for (int i = 0; i < pulses.length; i++) {
            int command = grades[i] == 4 ? 2 : grades[i] == 3 ? 1 : 0;
            TrainGuard standing = new TrainGuard(20, 10, 0);
            CHECK.due("STAND BY, " + pulses[i] + " pulses", command, standing.cycle(pulses[i]));
            CHECK.due("its grade", grades[i], standing.display(1));
            TrainGuard post = Rides.postTrip();
            CHECK.due("POST TRIP, " + pulses[i] + " pulses", command, post.cycle(pulses[i]));
            CHECK.due("its grade", grades[i], post.display(1));
        }
    }

    private static void askedBrake() {
        TrainGuard guard = Rides.onSight(1000);
        CHECK.due("first", 0, guard.cycle(5));
        CHECK.due("second", 0, guard.cycle(5));
        CHECK.due("third", 1, guard.cycle(5));
        CHECK.due("fourth, at rest", 1, guard.cycle(0));
        CHECK.due("heard", true, guard.driver(1));
        CHECK.due("no change without a cycle", 1, guard.state(3));
        CHECK.due("off", 0, guard.cycle(5));
        TrainGuard prompt = Rides.onSight(1000);
        prompt.cycle(5);
        prompt.cycle(5);
        prompt.driver(1);
        CHECK.due("heard in time", 0, prompt.cycle(5));
        TrainGuard fast = Rides.onSight(1000);
        CHECK.due("too fast", 2, fast.cycle(100));
        CHECK.due("still", 2, fast.cycle(5));
        CHECK.due("the emergency brake counts first", 2, fast.cycle(5));
        CHECK.due("at rest the asked brake is left", 1, fast.cycle(0));
    }

    private static void askedAnew() {
        TrainGuard guard = Rides.onSight(1000);
        guard.cycle(5);
        guard.cycle(5);
        Telegram.of(3, 1).authority(1000, 0, 1).to(guard);
        CHECK.due("ON SIGHT again does not ask anew", 1, guard.cycle(5));
        Telegram.of(3, 2).authority(1000, 0, 0).to(guard);
        CHECK.due("FULL", 0, guard.cycle(5));
        Telegram.of(3, 3).authority(1000, 0, 1).to(guard);
        CHECK.due("first", 0, guard.cycle(5));
        CHECK.due("second", 0, guard.cycle(5));
        CHECK.due("third", 1, guard.cycle(5));
    }
}
