/** Promise 1: what a new object is, and which decelerations and lengths it counts with. */
public final class Promise01NewObjectTest {
    private static final Check CHECK = new Check("Promise01NewObjectTest");

    public static void main(String[] args) {
        newObject();
        emergencyCounts();
        serviceCounts();
        lengthCounts();
        CHECK.end();
    }

    private static void newObject() {
        TrainGuard guard = new TrainGuard(10, 5, 100);
        CHECK.due("the mode", 0, guard.mode());
        for (int what = 0; what <= 6; what++) {
            CHECK.due("state(" + what + ")", 0, guard.state(what));
        }
        CHECK.due("the allowed speed", 0, guard.display(0));
        CHECK.due("the grade", 0, guard.display(1));
        CHECK.due("no authority", -1, guard.display(2));
        CHECK.due("the ceiling", 0, guard.display(3));
        CHECK.due("no limit", 600, guard.limit(0));
        CHECK.due("no mark", -1, guard.marks(0));
        CHECK.due("no note", -1, guard.note(0));
    }

    private static void emergencyCounts() {
        emergencyIs(Integer.MIN_VALUE, 4);
        emergencyIs(0, 4);
        emergencyIs(3, 4);
        emergencyIs(4, 4);
        emergencyIs(5, 5);
        emergencyIs(39, 39);
        emergencyIs(40, 40);
        emergencyIs(41, 40);
        emergencyIs(Integer.MAX_VALUE, 40);
    }

    /** After one cycle of 100 pulses HIGH and TOP are 107; the emergency curve reaches to this very place. */
    private static void emergencyIs(int given, int counts) {
        int reach = 107 + 109 + 111 + PlainModel.brakingWay(111, 0, counts);
        CHECK.due("emergency " + given + ", end at the curve", 3, gradeBefore(given, reach));
        CHECK.due("emergency " + given + ", end 1 before", 4, gradeBefore(given, reach - 1));
    }

    private static int gradeBefore(int emergency, int supervised) {
        int overlap = supervised % 10;
        TrainGuard guard = Rides.full(emergency, 2, 0, (supervised - overlap) / 10, overlap);
        guard.cycle(100);
        return guard.display(1);
    }

    private static void serviceCounts() {
        serviceIs(40, Integer.MIN_VALUE, 2);
        serviceIs(40, 1, 2);
        serviceIs(40, 2, 2);
        serviceIs(40, 3, 3);
        serviceIs(40, 40, 40);
        serviceIs(40, 41, 40);
        serviceIs(12, 11, 11);
        serviceIs(12, 12, 12);
        serviceIs(12, 13, 12);
        serviceIs(1, 40, 4);
        serviceIs(50, Integer.MAX_VALUE, 40);
    }

    private static void serviceIs(int emergency, int given, int counts) {
        int allowed = 0;
        for (int v = 0; v <= 600; v++) {
            if (v + 2 + v + 4 + v + 6 + 4 * v + PlainModel.brakingWay(v + 6, 0, counts) <= 3000) {
                allowed = v;
            }
        }
        TrainGuard guard = Rides.full(emergency, given, 0, 300, 1000);
        CHECK.due("allowed speed with emergency " + emergency + ", service " + given, allowed, guard.display(0));
    }

    private static void lengthCounts() {
        lengthIs(Integer.MIN_VALUE, 0);
        lengthIs(-1, 0);
        lengthIs(0, 0);
        lengthIs(1, 1);
        lengthIs(3999, 3999);
        lengthIs(4000, 4000);
        lengthIs(4001, 4000);
        lengthIs(Integer.MAX_VALUE, 4000);
    }

    /** The limit of 50 holds up to place 10: it binds until LOW - LENGTH is 10. */
    private static void lengthIs(int given, int counts) {
        TrainGuard guard = Rides.started(new TrainGuard(20, 10, given),
                Telegram.of(3, 0).authority(32767, 0, 0).profile(0, 10, 1, 40));
        Rides.lowTo(guard, 1, counts + 9);
        CHECK.due("length " + given + ", the tail at 9", 50, guard.display(3));
        Rides.creep(guard, 1);
        CHECK.due("length " + given + ", the tail at 10", 200, guard.display(3));
    }
}
