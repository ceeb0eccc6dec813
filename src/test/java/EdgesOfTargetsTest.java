/** The terms TARGETS and FALL: which places ahead count, and which falls on the way to them. */
public final class EdgesOfTargetsTest {
    private static final Check CHECK = new Check("EdgesOfTargetsTest");

    public static void main(String[] args) {
        guidedModesAlone();
        aboveHigh();
        supervisedPlace();
        endBehindTheFront();
        fallsHold();
        fallsFromTheTail();
        fallsToTheEnd();
        fallsToTheSupervisedPlace();
        fallsToOtherTargets();
        noSuchPlace();
        CHECK.end();
    }

    private static TrainGuard riding(int emergency, int service, int length, Telegram telegram) {
        return Rides.started(new TrainGuard(emergency, service, length), telegram);
    }

    private static Telegram farAuthority(int code) {
        return Telegram.of(3, 0).authority(32767, 0, code);
    }

    private static void guidedModesAlone() {
        CHECK.sentence("TARGETS, in FULL and ON SIGHT alone");
        for (int mode = 0; mode <= 5; mode++) {
            if (mode == 4) {
                continue;
            }
            TrainGuard guard = Rides.inMode(mode);
            int code = mode == 3 ? 1 : 0;
            Telegram telegram = Telegram.of(3, 5).authority(1, 0, code).restriction(1, 1, 1, 0);
            CHECK.due("END and a restriction close by", 0, telegram.to(guard));
            int want = mode == 2 || mode == 3 ? 0 : mode == 1 ? 80 : 0;
            CHECK.due("allowed in mode " + mode, want, guard.display(0));
            CHECK.due("the grade at rest in mode " + mode, mode == 2 || mode == 3 ? 3 : 0, guard.display(1));
        }
    }

    /** With a limit of 110 ahead 107 + 4 is above it; where it holds, 107 is below the ceiling of 110. */
    private static void aboveHigh() {
        CHECK.sentence("for each step or restriction whose place is above HIGH: that place with its limit");
        for (int high = 197; high <= 201; high++) {
            boolean ahead = high < 200;
            TrainGuard step = Rides.at(riding(12, 6, 0, farAuthority(0).profile(0, 127, 20, 22)), high, 107);
            CHECK.due("a step at 200, HIGH " + high, ahead ? 4 : 0, step.display(1));
            CHECK.due("allowed", ahead ? 104 : 110, step.display(0));
            TrainGuard restricted = Rides.at(riding(12, 6, 0,
                    farAuthority(0).profile(0, 127).restriction(1, 20, 1, 22)), high, 107);
            CHECK.due("a restriction at 200, HIGH " + high, ahead ? 4 : 0, restricted.display(1));
            CHECK.due("allowed", ahead ? 104 : 110, restricted.display(0));
        }
        for (int high = 197; high <= 201; high++) {
            TrainGuard onSight = Rides.at(riding(12, 6, 0, farAuthority(1).profile(0, 127, 20, 10)), high, 47);
            CHECK.due("ON SIGHT, a step of 50 at 200, HIGH " + high, high < 200 ? 4 : 0, onSight.display(1));
            CHECK.due("allowed", high < 200 ? 44 : 50, onSight.display(0));
        }
    }

    /** At TOP 107 (12, 2, 0) reaches 679 beyond HIGH and (6, 3, 0) reaches 1341. */
    private static void supervisedPlace() {
        CHECK.sentence("the end: END with 0 (for the emergency curve in its stead the SUPERVISED place with 0)");
        for (int overlap = 84; overlap <= 87; overlap++) {
            TrainGuard guard = Rides.at(Rides.full(12, 6, 0, 70, overlap), 107, 107);
            CHECK.due("SUPERVISED place " + (700 + overlap) + " and (12, 2, 0) up to 786", overlap < 86 ? 4 : 3,
                    guard.display(1));
        }
        for (int overlap = 0; overlap <= 1023; overlap += 341) {
            TrainGuard guard = Rides.at(Rides.full(12, 6, 0, 145, overlap), 110, 107);
            CHECK.due("the service curve up to END + 1, OVERLAP " + overlap, 3, guard.display(1));
            TrainGuard before = Rides.at(Rides.full(12, 6, 0, 145, overlap), 109, 107);
            CHECK.due("the service curve up to END, OVERLAP " + overlap, 2, before.display(1));
        }
    }

    private static void endBehindTheFront() {
        CHECK.sentence("and the end (wherever it is)");
        TrainGuard guard = Rides.full(12, 6, 0, 300, 0);
        Rides.highTo(guard, 30);
        guard.cycle(0);
        CHECK.due("at rest before it", 0, guard.display(1));
        CHECK.due("END 40", 0, Telegram.of(3, 1).authority(4, 0, 0).to(guard));
        CHECK.due("30 + 12 is above 40, 30 + 6 is not", 3, guard.display(1));
        CHECK.due("END at HIGH", 0, Telegram.of(3, 2).authority(3, 0, 0).to(guard));
        CHECK.due("30 + 6 is above 30", 4, guard.display(1));
        CHECK.due("END behind HIGH", 0, Telegram.of(3, 3).authority(1, 0, 0).to(guard));
        CHECK.due("it counts still", 4, guard.display(1));
        CHECK.due("no speed is allowed", 0, guard.display(0));
        CHECK.due("END behind HIGH, SUPERVISED place 36", 0, Telegram.of(3, 4).authority(1, 26, 0).to(guard));
        CHECK.due("30 + 6 is not above 36", 3, guard.display(1));
    }

    /** The greatest v with 7 * v + 12 + BRAKING WAY(v + 6, 0, b) up to the way, which the service curve asks for. */
    private static int allowedBy(int b, int way) {
        int allowed = 0;
        for (int v = 0; v <= 600; v++) {
            if (7 * v + 12 + PlainModel.brakingWay(v + 6, 0, b) <= way) {
                allowed = v;
            }
        }
        return allowed;
    }

    private static int allowedWith(int... grades) {
        return riding(40, 10, 30, Telegram.of(3, 0).authority(100, 1023, 0).profile(0, 127).grades(grades)).display(0);
    }

    private static void fallsHold() {
        CHECK.sentence("GRADES: steps likewise, each with a fall, 0 before the first.");
        CHECK.due("no grades", allowedBy(10, 1000), allowedWith());
        CHECK.due("from 0 on", allowedBy(4, 1000), allowedWith(0, 6));
        CHECK.due("a fall of 0", allowedBy(10, 1000), allowedWith(0, 0));
        CHECK.due("from 500 on", allowedBy(4, 1000), allowedWith(50, 6));
        CHECK.due("up to the next step", allowedBy(4, 1000), allowedWith(0, 6, 1, 0));
        CHECK.sentence("FALL at a target: the greatest of all falls that hold at some place");
        CHECK.due("the first is the greatest", allowedBy(3, 1000), allowedWith(0, 7, 20, 6, 30, 5));
        CHECK.due("the middle one is", allowedBy(3, 1000), allowedWith(0, 5, 20, 7, 30, 6));
        CHECK.due("the last one is", allowedBy(3, 1000), allowedWith(0, 5, 20, 6, 30, 7));
        CHECK.due("the seventh is", allowedBy(3, 1000), allowedWith(0, 1, 1, 2, 2, 3, 3, 4, 4, 5, 5, 6, 6, 7));
    }

    private static void fallsFromTheTail() {
        CHECK.sentence("from LOW - LENGTH to the target's place");
        int[] lengths = {0, 30, 4000};
        for (int length : lengths) {
            for (int tail = 18; tail <= 21; tail++) {
                TrainGuard guard = riding(40, 10, length,
                        Telegram.of(3, 0).authority(1000, 1023, 0).profile(0, 127).grades(0, 6, 2, 0));
                Rides.lowTo(guard, 1, tail + length);
                guard.cycle(0);
                CHECK.due("a fall up to 20, LOW - LENGTH " + tail + ", LENGTH " + length,
                        allowedBy(tail < 20 ? 4 : 10, 10000 - guard.state(1)), guard.display(0));
            }
        }
    }

    private static void fallsToTheEnd() {
        CHECK.sentence("to the target's place (END)");
        CHECK.due("a fall from 990 on", allowedBy(4, 1000), allowedWith(99, 6));
        CHECK.due("a fall from 1000 on", allowedBy(4, 1000), allowedWith(100, 6));
        CHECK.due("a fall from 1010 on", allowedBy(10, 1000), allowedWith(101, 6));
    }

    /** b is 12 or, with the fall, 2: (12, 2, 0) reaches 679 beyond HIGH 107 at TOP 107, (2, 2, 0) reaches 3245. */
    private static void fallsToTheSupervisedPlace() {
        CHECK.sentence("to the target's place (the SUPERVISED place, for the emergency curve)");
        CHECK.due("109 + 111 + (109 + 107 + .. + 1)", 3245, 109 + 111 + PlainModel.brakingWay(111, 0, 2));
        for (int overlap = 18; overlap <= 21; overlap++) {
            TrainGuard guard = Rides.at(riding(12, 12, 0,
                    Telegram.of(3, 0).authority(200, overlap, 0).profile(0, 127).grades(202, 10)), 107, 107);
            CHECK.due("a fall from 2020 on, SUPERVISED place " + (2000 + overlap), overlap < 20 ? 0 : 4,
                    guard.display(1));
        }
    }

    /**
     * At HIGH 600 and TOP 107 the curves to 100 with b 6 reach 1236, 1450 and 1664 for j 0, 2 and 4;
     * with b 1 even the first of them reaches 600 + 333 + (112 + 111 + .. + 100) = 2311.
     */
    private static void fallsToOtherTargets() {
        CHECK.sentence("to the target's place (a step or a restriction)");
        int[] places = {149, 150, 151};
        for (int from : places) {
            int want = from <= 150 ? 3 : 1;
            TrainGuard step = riding(40, 6, 0, farAuthority(0).profile(0, 127, 150, 20).grades(from, 5));
            CHECK.due("a step at 1500, a fall from " + 10 * from + " on", want,
                    Rides.at(step, 600, 107).display(1));
            TrainGuard restricted = riding(40, 6, 0,
                    farAuthority(0).profile(0, 127).restriction(1, 150, 1, 20).grades(from, 5));
            CHECK.due("a restriction at 1500, a fall from " + 10 * from + " on", want,
                    Rides.at(restricted, 600, 107).display(1));
        }
    }

    /** END lies behind the train, so no place is from LOW - LENGTH to it; the grade is known all the same. */
    private static void noSuchPlace() {
        CHECK.sentence("(0 if none does, or there is no such place)");
        TrainGuard guard = riding(40, 10, 0,
                Telegram.of(3, 0).authority(1000, 0, 0).profile(0, 127).grades(0, 63));
        Rides.lowTo(guard, 1, 500);
        guard.cycle(0);
        int high = guard.state(1);
        CHECK.due("END 10 behind the train", 0, Telegram.of(3, 2).authority(1, 0, 0).to(guard));
        CHECK.due("the grade", 4, guard.display(1));
        CHECK.due("allowed", 0, guard.display(0));
        int overlap = high + 6 - 10;
        CHECK.due("SUPERVISED place at HIGH + 6", 0, Telegram.of(3, 3).authority(1, overlap, 0).to(guard));
        CHECK.due("2 + 4 with b 1: 3 + 2 + 1 more", 4, guard.display(1));
        CHECK.due("SUPERVISED place at HIGH + 11", 0, Telegram.of(3, 4).authority(1, overlap + 5, 0).to(guard));
        CHECK.due("1 too near", 4, guard.display(1));
        CHECK.due("SUPERVISED place at HIGH + 12", 0, Telegram.of(3, 5).authority(1, overlap + 6, 0).to(guard));
        CHECK.due("far enough", 3, guard.display(1));
    }
}
