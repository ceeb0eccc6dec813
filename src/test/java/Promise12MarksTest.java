/** Promise 12: the marks as they are shown. */
public final class Promise12MarksTest {
    private static final Check CHECK = new Check("Promise12MarksTest");

    public static void main(String[] args) {
        TrainGuard guard = Rides.full(20, 10, 0, 300, 0);
        CHECK.due("none", -1, guard.marks(0));
        Telegram.of(24, 1).marks(1, 255, 10, 2, 0, 5, 3, 128, 0, 32767, 1, 63).to(guard);
        guard.mark(255);
        int[] want = {10000 + 1020 + 1, 20000, 30000 + 512, 327670000 + 4};
        for (int k = 0; k < want.length; k++) {
            CHECK.due("marks(" + k + ")", want[k], guard.marks(k));
        }
        int[] wrong = {-1, 4, 5, 6, 7, 8, Integer.MIN_VALUE, Integer.MAX_VALUE};
        for (int k : wrong) {
            CHECK.due("marks(" + k + ")", -1, guard.marks(k));
        }
        Telegram.of(24, 2).grades().to(guard);
        CHECK.due("a message without marks leaves them", 11021, guard.marks(0));
        Telegram.of(24, 3).marks(1, 1, 0, 2, 2, 0, 3, 3, 0, 4, 4, 0, 5, 5, 0, 6, 6, 0, 7, 7, 0).to(guard);
        for (int k = 0; k < 7; k++) {
            CHECK.due("seven, marks(" + k + ")", 10004 * (k + 1), guard.marks(k));
        }
        CHECK.due("no eighth", -1, guard.marks(7));
        Telegram.of(24, 4).marks(9, 9, 0).to(guard);
        CHECK.due("one", 90036, guard.marks(0));
        CHECK.due("as many as came", -1, guard.marks(1));
        Telegram.stop(5).to(guard);
        CHECK.due("gone when it trips", -1, guard.marks(0));
        CHECK.end();
    }
}
