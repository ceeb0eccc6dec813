/** Promise 6: what the driver can do, and when. */
public final class Promise06DriverTest {
    private static final Check CHECK = new Check("Promise06DriverTest");

    public static void main(String[] args) {
        wrongDeeds();
        whereEachIsHeard();
        onlyAtRest();
        starting();
        startingFromPostTrip();
        acknowledging();
        CHECK.end();
    }

    private static void refused(String what, TrainGuard guard, int deed) {
        String before = Check.picture(guard);
        CHECK.due(what + ", driver(" + deed + ")", false, guard.driver(deed));
        CHECK.due(what + ": nothing changed", true, before.equals(Check.picture(guard)));
    }

    private static void wrongDeeds() {
        int[] wrong = {-1, 3, 4, 7, Integer.MIN_VALUE, Integer.MAX_VALUE};
        for (int mode = 0; mode <= 6; mode++) {
            for (int deed : wrong) {
                refused("mode " + mode, Rides.inMode(mode), deed);
            }
        }
    }

    private static void whereEachIsHeard() {
        for (int mode = 0; mode <= 6; mode++) {
            for (int deed = 0; deed <= 2; deed++) {
                boolean heard = deed == 0 && (mode == 0 || mode == 5)
                        || deed == 1 && mode == 3 || deed == 2 && mode == 4;
                if (heard) {
                    CHECK.due("mode " + mode + ", driver(" + deed + ")", true, Rides.inMode(mode).driver(deed));
                } else {
                    refused("mode " + mode, Rides.inMode(mode), deed);
                }
            }
        }
    }

    private static void onlyAtRest() {
        TrainGuard standing = Rides.inMode(0);
        standing.cycle(1);
        refused("START on the way", standing, 0);
        standing.cycle(0);
        CHECK.due("START at rest", true, standing.driver(0));
        TrainGuard tripped = Rides.inMode(4);
        tripped.cycle(1);
        refused("RELEASE on the way", tripped, 2);
        tripped.cycle(0);
        CHECK.due("RELEASE at rest", true, tripped.driver(2));
        CHECK.due("POST TRIP", 5, tripped.mode());
        CHECK.dueNotes("the driver, then the mode", tripped, 20702, 20105);
        tripped.cycle(1);
        refused("START in POST TRIP on the way", tripped, 0);
        TrainGuard onSight = Rides.inMode(3);
        onSight.cycle(20);
        CHECK.due("ACKNOWLEDGE on the way", true, onSight.driver(1));
    }

    private static void starting() {
        TrainGuard bare = Rides.inMode(0);
        bare.driver(0);
        CHECK.due("STAFF", 1, bare.mode());
        CHECK.dueNotes("the driver, then the mode", bare, 700, 101);
        TrainGuard withoutProfile = Rides.inMode(0);
        Telegram.of(3, 0).authority(300, 0, 0).to(withoutProfile);
        withoutProfile.driver(0);
        CHECK.due("STAFF without a profile", 1, withoutProfile.mode());
        TrainGuard withoutAuthority = Rides.inMode(0);
        Telegram.of(24, 0).profile(0, 20).to(withoutAuthority);
        withoutAuthority.driver(0);
        CHECK.due("STAFF without an authority", 1, withoutAuthority.mode());
        TrainGuard full = Rides.inMode(2);
        CHECK.due("FULL", 2, full.mode());
        CHECK.due("nothing is asked", 0, full.state(4));
        CHECK.dueNotes("the driver, then the mode", full, 303, 700, 102);
        TrainGuard onSight = Rides.inMode(3);
        CHECK.due("ON SIGHT", 3, onSight.mode());
        CHECK.due("it is asked", 1, onSight.state(4));
        CHECK.dueNotes("the driver, then the mode", onSight, 303, 700, 103);
    }

    private static void startingFromPostTrip() {
        TrainGuard full = Rides.inMode(5);
        Telegram.of(3, 1).authority(300, 0, 0).profile(0, 20).to(full);
        full.driver(0);
        CHECK.due("FULL", 2, full.mode());
        TrainGuard onSight = Rides.inMode(5);
        Telegram.of(3, 1).authority(300, 0, 1).profile(0, 20).to(onSight);
        onSight.driver(0);
        CHECK.due("ON SIGHT", 3, onSight.mode());
        CHECK.due("it is asked", 1, onSight.state(4));
        TrainGuard staff = Rides.inMode(5);
        staff.driver(0);
        CHECK.due("STAFF", 1, staff.mode());
    }

    private static void acknowledging() {
        TrainGuard guard = Rides.inMode(3);
        CHECK.due("ACKNOWLEDGE", true, guard.driver(1));
        CHECK.due("asked no more", 0, guard.state(4));
        CHECK.due("its note", 701, guard.note(0));
        CHECK.due("ON SIGHT stays", 3, guard.mode());
        refused("nothing is asked", guard, 1);
        TrainGuard failed = Rides.inMode(3);
        failed.cycle(-1);
        CHECK.due("it stays asked in FAILED", 1, failed.state(4));
        CHECK.due("ACKNOWLEDGE in FAILED", true, failed.driver(1));
        CHECK.due("asked no more", 0, failed.state(4));
    }
}
