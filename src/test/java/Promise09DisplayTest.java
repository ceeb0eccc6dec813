/** Promise 9: what the driver sees: the allowed speed, the grade of danger, the way to the end, the ceiling. */
public final class Promise09DisplayTest {
    private static final Check CHECK = new Check("Promise09DisplayTest");

    public static void main(String[] args) {
        modes();
        wayToTheEnd();
        ceilingOfSteps();
        ceilingOfRestrictions();
        ceilingOnSight();
        gradesByCeiling();
        gradesByServiceCurve();
        gradesByEmergencyCurve();
        speedsOfTargets();
        targetsAhead();
        restrictionsAsTargets();
        falls();
        fallsForTheEmergencyCurve();
        mostTargets();
        allowedSpeeds();
        CHECK.end();
    }

    private static void modes() {
        TrainGuard[] guards = {new TrainGuard(20, 10, 0), Rides.staff(), Rides.full(20, 10, 0, 300, 0),
            Rides.onSight(300), Rides.tripped(), Rides.postTrip(), Rides.failed()};
        int[][] want = {{0, 0, -1, 0}, {80, 0, -1, 80}, {183, 0, 3000, 600}, {60, 0, 3000, 60},
            {0, 4, -1, -1}, {0, 0, -1, 0}, {0, 4, -1, -1}};
        int[] wrong = {-1, 4, 5, Integer.MIN_VALUE, Integer.MAX_VALUE};
        for (int mode = 0; mode <= 6; mode++) {
            for (int what = 0; what <= 3; what++) {
                CHECK.due("mode " + mode + ", display(" + what + ")", want[mode][what], guards[mode].display(what));
            }
            for (int what : wrong) {
                CHECK.due("mode " + mode + ", display(" + what + ")", -1, guards[mode].display(what));
            }
        }
    }

    private static void wayToTheEnd() {
        TrainGuard guard = new TrainGuard(20, 10, 0);
        Telegram.of(3, 0).authority(1, 500, 0).to(guard);
        CHECK.due("in STAND BY", 10, guard.display(2));
        Rides.creep(guard, 3);
        CHECK.due("HIGH 9", 1, guard.display(2));
        Rides.creep(guard, 1);
        CHECK.due("HIGH 12", 0, guard.display(2));
        guard.cycle(-1);
        CHECK.due("in FAILED", 0, guard.display(2));
    }

    private static TrainGuard withSteps(int length) {
        return Rides.started(new TrainGuard(20, 10, length),
                Telegram.of(3, 0).authority(32767, 0, 0).profile(10, 40, 20, 10, 30, 20));
    }

    private static void ceilingOfSteps() {
        TrainGuard guard = withSteps(5);
        CHECK.due("before the first step", 600, guard.display(3));
        Rides.creep(guard, 33);
        CHECK.due("HIGH 99", 600, guard.display(3));
        guard = withSteps(5);
        Rides.creep(guard, 32);
        guard.cycle(1);
        guard.cycle(1);
        CHECK.due("HIGH", 100, guard.state(1));
        CHECK.due("HIGH 100", 200, guard.display(3));
        guard.cycle(94);
        CHECK.due("HIGH", 200, guard.state(1));
        CHECK.due("HIGH 200, two steps below the train", 50, guard.display(3));
        guard.cycle(180);
        Rides.creep(guard, 304 - guard.state(0));
        CHECK.due("the tail at 299", 50, guard.display(3));
        Rides.creep(guard, 1);
        CHECK.due("the tail at 300", 100, guard.display(3));
    }

    private static void ceilingOfRestrictions() {
        TrainGuard guard = Rides.started(new TrainGuard(20, 10, 7),
                Telegram.of(3, 0).authority(32767, 0, 0).profile(0, 60).restriction(1, 3, 2, 8));
        guard.cycle(26);
        CHECK.due("HIGH", 28, guard.state(1));
        CHECK.due("HIGH 28", 300, guard.display(3));
        guard.cycle(1);
        CHECK.due("HIGH 30", 40, guard.display(3));
        Rides.creep(guard, 56 - guard.state(0));
        CHECK.due("the tail at 49", 40, guard.display(3));
        Rides.creep(guard, 1);
        CHECK.due("the tail at 50", 300, guard.display(3));
    }

    private static void ceilingOnSight() {
        TrainGuard slow = Rides.started(new TrainGuard(20, 10, 0),
                Telegram.of(3, 0).authority(300, 0, 1).profile(0, 11));
        CHECK.due("below 60", 55, slow.display(3));
        TrainGuard fast = Rides.started(new TrainGuard(20, 10, 0),
                Telegram.of(3, 0).authority(300, 0, 1).profile(0, 13));
        CHECK.due("above 60", 60, fast.display(3));
        TrainGuard staff = Rides.staff();
        Telegram.of(24, 0).profile(0, 5).restriction(1, 0, 9, 1).to(staff);
        CHECK.due("STAFF knows no limits", 80, staff.display(3));
    }

    private static void gradesByCeiling() {
        int[] pulses = {93, 94, 95, 96, 97, 98, 99, 100, 101, 102};
        int[] tops = {99, 100, 101, 103, 104, 105, 106, 107, 108, 109};
        int[] grades = {0, 0, 1, 1, 2, 2, 3, 3, 3, 4};
        for (int i = 0; i < pulses.length; i++) {
            TrainGuard guard = Rides.started(new TrainGuard(20, 10, 0),
                    Telegram.of(3, 0).authority(32767, 0, 0).profile(0, 20));
            guard.cycle(pulses[i]);
            CHECK.due("TOP", tops[i], guard.state(2));
            CHECK.due("the grade of " + tops[i], grades[i], guard.display(1));
            CHECK.due("the allowed speed", 100, guard.display(0));
        }
    }

    /** HIGH at first, then a cycle of 100 pulses, after which TOP is 107. */
    private static TrainGuard ride(TrainGuard guard, int highAtFirst) {
        while (guard.state(1) < highAtFirst) {
            int left = highAtFirst - guard.state(1);
            guard.cycle(left % 3 == 0 ? 2 : 1);
        }
        guard.cycle(100);
        CHECK.due("HIGH", highAtFirst + 107, guard.state(1));
        return guard;
    }

    /** The way of the curve (6, 3, j) from 107 to 0: 109 + 111 + 113 + j * 107 + 1008. */
    private static void gradesByServiceCurve() {
        int[] highs = {2, 3, 8, 9, 4, 5};
        int[] ends = {145, 145, 167, 167, 188, 188};
        int[] grades = {2, 3, 1, 2, 0, 1};
        for (int i = 0; i < highs.length; i++) {
            TrainGuard guard = ride(Rides.full(12, 6, 0, ends[i], 1000), highs[i]);
            CHECK.due("END " + ends[i] + "0, HIGH " + (highs[i] + 107), grades[i], guard.display(1));
        }
    }

    /** The way of the curve (12, 2, 0) from 107 to 0: 109 + 111 + 459; the service brake is as weak as can be. */
    private static void gradesByEmergencyCurve() {
        for (int overlap = 0; overlap <= 200; overlap++) {
            TrainGuard guard = ride(Rides.full(12, 2, 0, 60, overlap), 0);
            CHECK.due("SUPERVISED place " + (600 + overlap), overlap >= 186 ? 3 : 4, guard.display(1));
        }
    }

    /** A speed grows by 6 before the service brake acts and by 4 before the emergency brake does. */
    private static void speedsOfTargets() {
        int[] pulses = {97, 98, 99, 100};
        int[] tops = {104, 105, 106, 107};
        int[] grades = {0, 3, 3, 4};
        for (int i = 0; i < pulses.length; i++) {
            TrainGuard guard = withStep(11, 22);
            guard.cycle(pulses[i]);
            CHECK.due("TOP", tops[i], guard.state(2));
            CHECK.due(tops[i] + " with a step of 110 close by", grades[i], guard.display(1));
        }
        int[] places = {42, 43, 74, 75, 95, 96, 117, 118};
        int[] gradesThere = {4, 3, 3, 2, 2, 1, 1, 0};
        for (int i = 0; i < places.length; i++) {
            CHECK.due("107 + 220 + 99 = 426; 107 + 333 + 303 = 743, 957, 1171 to 100 at " + places[i] + "0",
                    gradesThere[i], ride(withStep(places[i], 20), 0).display(1));
        }
    }

    private static TrainGuard withStep(int place, int limit) {
        return Rides.started(new TrainGuard(12, 6, 0),
                Telegram.of(3, 0).authority(32767, 0, 0).profile(0, 127, place, limit));
    }

    private static void targetsAhead() {
        TrainGuard guard = withStep(11, 23);
        ride(guard, 3);
        CHECK.due("a step at HIGH is a ceiling of 115", 115, guard.display(3));
        CHECK.due("and no target", 0, guard.display(1));
        TrainGuard behind = Rides.full(12, 6, 0, 10, 0);
        ride(behind, 0);
        CHECK.due("END behind HIGH is a target", 4, behind.display(1));
        CHECK.due("with no speed below it", 0, behind.display(0));
        TrainGuard staff = Rides.staff();
        Telegram.of(3, 0).authority(1, 0, 0).to(staff);
        staff.cycle(60);
        CHECK.due("no targets in STAFF", 0, staff.display(1));
    }

    private static void restrictionsAsTargets() {
        TrainGuard guard = Rides.started(new TrainGuard(12, 6, 0),
                Telegram.of(3, 0).authority(32767, 0, 0).profile(0, 127).restriction(1, 100, 1, 20));
        int free = guard.display(0);
        CHECK.due("as with a step", withStep(100, 20).display(0), free);
        Telegram.of(24, 1).restriction(2, 50, 1, 20).to(guard);
        CHECK.due("the nearer one counts", withStep(50, 20).display(0), guard.display(0));
        Telegram.of(24, 2).ended(2).to(guard);
        CHECK.due("until its end", free, guard.display(0));
    }

    /** Seven steps and six restrictions lie ahead, of which one alone is slow; both ends count behind them. */
    private static void mostTargets() {
        for (int slow = 0; slow <= 13; slow++) {
            TrainGuard guard = new TrainGuard(12, 6, 0);
            for (int i = 0; i < 6; i++) {
                Telegram.of(24, i).restriction(i, 100, 1, slow == 7 + i ? 20 : 127).to(guard);
            }
            int[] steps = new int[14];
            for (int i = 0; i < 7; i++) {
                steps[2 * i] = 100 + i;
                steps[2 * i + 1] = slow == i ? 20 : 127;
            }
            Rides.started(guard, Telegram.of(3, 9).authority(32767, 0, 0).profile(steps));
            int want = slow == 13 ? 594 : withStep(slow < 7 ? 100 + slow : 100, 20).display(0);
            CHECK.due("the slow one is " + slow, want, guard.display(0));
            Telegram.of(3, 10).authority(90, 0, 0).to(guard);
            CHECK.due("END before them", Rides.full(12, 6, 0, 90, 0).display(0), guard.display(0));
            Telegram.of(3, 11).authority(0, 0, 0).to(guard);
            CHECK.due("the SUPERVISED place behind the front", 4, guard.display(1));
        }
    }

    private static int allowedWith(int... grades) {
        TrainGuard guard = Rides.started(new TrainGuard(20, 10, 30),
                Telegram.of(3, 0).authority(100, 0, 0).profile(0, 127).grades(grades));
        return guard.display(0);
    }

    private static int allowedBy(int b) {
        int allowed = 0;
        for (int v = 0; v <= 600; v++) {
            if (7 * v + 12 + PlainModel.brakingWay(v + 6, 0, b) <= 1000) {
                allowed = v;
            }
        }
        return allowed;
    }

    private static void falls() {
        CHECK.due("no fall", allowedBy(10), allowedWith());
        CHECK.due("a fall of 4", allowedBy(6), allowedWith(0, 4));
        CHECK.due("a fall of 9", allowedBy(1), allowedWith(0, 9));
        CHECK.due("a fall of 10", allowedBy(1), allowedWith(0, 10));
        CHECK.due("a fall of 63", allowedBy(1), allowedWith(0, 63));
        CHECK.due("the greatest of three", allowedBy(4), allowedWith(0, 2, 50, 6, 60, 3));
        CHECK.due("a fall at the target", allowedBy(6), allowedWith(100, 4));
        CHECK.due("a fall behind the target", allowedBy(10), allowedWith(101, 4));
        TrainGuard guard = Rides.started(new TrainGuard(20, 20, 30),
                Telegram.of(3, 0).authority(1000, 0, 0).profile(0, 127).grades(0, 9, 2, 0));
        int steep = guard.display(0);
        Rides.creep(guard, 49);
        CHECK.due("the tail at 19", true, guard.display(0) < steep);
        Rides.creep(guard, 1);
        CHECK.due("the tail at 20", true, guard.display(0) > steep);
        TrainGuard far = Rides.started(new TrainGuard(4, 4, 0),
                Telegram.of(3, 0).authority(3, 0, 0).profile(0, 127).grades(0, 3, 4, 63));
        CHECK.due("END 30 with a fall of 3: 12 + 15 at rest, 19 + 21", 0, far.display(0));
        CHECK.due("its grade at rest", 0, far.display(1));
    }

    /** The fall lies in the overlap: b is 1 for the emergency curve alone, whose way from 107 is 109 + 111 + 6105. */
    private static void fallsForTheEmergencyCurve() {
        for (int overlap = 431; overlap <= 432; overlap++) {
            TrainGuard guard = Rides.started(new TrainGuard(12, 12, 0),
                    Telegram.of(3, 0).authority(600, overlap, 0).profile(0, 127).grades(601, 63));
            CHECK.due("allowed for the emergency curve", 107, guard.display(0));
            ride(guard, 0);
            CHECK.due("SUPERVISED place " + (6000 + overlap), overlap == 431 ? 4 : 0, guard.display(1));
        }
    }

    private static void allowedSpeeds() {
        CHECK.due("602 + 12 + 378 to 1000", 86, Rides.full(20, 10, 0, 100, 0).display(0));
        CHECK.due("no more than MAX", 600, Rides.full(40, 40, 0, 32767, 0).display(0));
        CHECK.due("no end", 0, Rides.full(20, 10, 0, 0, 0).display(0));
        TrainGuard close = Rides.full(4, 4, 0, 3, 0);
        Rides.creep(close, 1);
        CHECK.due("7 + 12 + 3 of 27, but 14 + 12 + 4", 1, close.display(0));
        TrainGuard guard = Rides.full(20, 10, 0, 100, 0);
        String before = Check.picture(guard);
        for (int what = -1; what <= 4; what++) {
            guard.display(what);
        }
        CHECK.due("looking changes nothing", true, before.equals(Check.picture(guard)));
    }
}
