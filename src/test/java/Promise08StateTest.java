/** Promise 8: the numbers of the state. */
public final class Promise08StateTest {
    private static final Check CHECK = new Check("Promise08StateTest");

    public static void main(String[] args) {
        TrainGuard guard = Rides.onSight(1000);
        guard.cycle(20);
        guard.cycle(40);
        guard.cycle(40);
        guard.bits(0, 13);
        int[] want = {92, 108, 43, 1, 1, 3, 13};
        for (int what = 0; what < want.length; what++) {
            CHECK.due("state(" + what + ")", want[what], guard.state(what));
        }
        int[] wrong = {-1, 7, 8, 100, Integer.MIN_VALUE, Integer.MAX_VALUE};
        for (int what : wrong) {
            CHECK.due("state(" + what + ")", -1, guard.state(what));
        }
        guard.driver(1);
        CHECK.due("asked no more", 0, guard.state(4));
        guard.cycle(0);
        CHECK.due("the command", 0, guard.state(3));
        CHECK.due("the cycle", 4, guard.state(5));
        guard.cycle(501);
        CHECK.due("the command in FAILED", 2, guard.state(3));
        guard.message();
        CHECK.due("no bits", 0, guard.state(6));
        CHECK.end();
    }
}
