/** Promise 10: the least limit that holds at a place. */
public final class Promise10LimitTest {
    private static final Check CHECK = new Check("Promise10LimitTest");

    public static void main(String[] args) {
        TrainGuard guard = new TrainGuard(20, 10, 0);
        everywhere(guard, 600);
        Telegram.of(24, 1).profile(10, 30, 20, 10, 30, 40).to(guard);
        int[] places = {0, 99, 100, 199, 200, 299, 300, 1000000, Integer.MAX_VALUE};
        int[] limits = {600, 600, 150, 150, 50, 50, 200, 200, 200};
        for (int i = 0; i < places.length; i++) {
            CHECK.due("limit(" + places[i] + ")", limits[i], guard.limit(places[i]));
        }
        Telegram.of(24, 2).restriction(1, 5, 10, 20).to(guard);
        Telegram.of(24, 3).restriction(2, 14, 8, 25).to(guard);
        int[] restricted = {49, 50, 99, 100, 149, 150, 199, 200, 219, 220, 300};
        int[] least = {600, 100, 100, 100, 100, 125, 125, 50, 50, 50, 200};
        for (int i = 0; i < restricted.length; i++) {
            CHECK.due("restricted, limit(" + restricted[i] + ")", least[i], guard.limit(restricted[i]));
        }
        Telegram.of(24, 4).profile(0, 3).restriction(3, 0, 1, 2).to(guard);
        CHECK.due("at 0", 10, guard.limit(0));
        CHECK.due("at 9", 10, guard.limit(9));
        CHECK.due("at 10", 15, guard.limit(10));
        CHECK.due("below 0", 600, guard.limit(-1));
        CHECK.due("far below 0", 600, guard.limit(Integer.MIN_VALUE));
        Telegram.stop(5).to(guard);
        CHECK.due("no steps in TRIP", 600, guard.limit(10));
        CHECK.due("but restrictions", 100, guard.limit(50));
        CHECK.end();
    }

    private static void everywhere(TrainGuard guard, int limit) {
        int[] places = {0, 1, 1000, Integer.MAX_VALUE, -1, Integer.MIN_VALUE};
        for (int place : places) {
            CHECK.due("limit(" + place + ")", limit, guard.limit(place));
        }
    }
}
