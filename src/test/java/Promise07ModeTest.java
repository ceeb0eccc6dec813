/** Promise 7: the number of each mode. */
public final class Promise07ModeTest {
    public static void main(String[] args) {
        Check check = new Check("Promise07ModeTest");
        check.due("STAND BY", 0, new TrainGuard(20, 10, 0).mode());
        check.due("STAFF", 1, Rides.staff().mode());
        check.due("FULL", 2, Rides.full(20, 10, 0, 300, 0).mode());
        check.due("ON SIGHT", 3, Rides.onSight(300).mode());
        check.due("TRIP", 4, Rides.tripped().mode());
        check.due("POST TRIP", 5, Rides.postTrip().mode());
        check.due("FAILED", 6, Rides.failed().mode());
        TrainGuard guard = Rides.staff();
        String before = Check.picture(guard);
        guard.mode();
        check.due("asking changes nothing", true, before.equals(Check.picture(guard)));
        check.end();
    }
}
