/** Promise 13: the record keeps the latest sixteen notes. */
public final class Promise13NoteTest {
    private static final Check CHECK = new Check("Promise13NoteTest");

    public static void main(String[] args) {
        int[] wrong = {-1, 16, 17, Integer.MIN_VALUE, Integer.MAX_VALUE};
        for (int all = 1; all <= 40; all++) {
            TrainGuard guard = new TrainGuard(20, 10, 0);
            for (int i = 0; i < all; i++) {
                guard.cycle(0);
                guard.message();
            }
            for (int k = 0; k < 16; k++) {
                int want = k < all ? 10000 * (all - k) + 402 : -1;
                CHECK.due("after " + all + ", note(" + k + ")", want, guard.note(k));
            }
            for (int k : wrong) {
                CHECK.due("note(" + k + ")", -1, guard.note(k));
            }
        }
        kinds();
        nothingNew();
        CHECK.end();
    }

    private static void kinds() {
        TrainGuard guard = new TrainGuard(20, 10, 0);
        Telegram.of(3, 0).authority(300, 0, 1).profile(0, 127).marks(4, 123, 9).to(guard);
        guard.driver(0);
        guard.cycle(40);
        guard.driver(1);
        guard.mark(123);
        guard.message();
        guard.cycle(100);
        guard.cycle(300);
        CHECK.dueNotes("one of each", guard, 303, 700, 103, 10701, 10523, 10402, 20202);
        Telegram.of(24, 1).marks(99, 1, 0).to(guard);
        guard.mark(1);
        CHECK.dueNotes("a fault of marks", guard, 30324, 30501, 30600, 30104);
    }

    private static void nothingNew() {
        TrainGuard guard = Rides.full(20, 10, 0, 300, 0);
        Telegram.of(3, 1).authority(300, 0, 0).to(guard);
        CHECK.dueNotes("FULL in FULL is no note", guard, 102, 303);
        guard.cycle(0);
        guard.cycle(10);
        CHECK.dueNotes("command 0 again is no note", guard, 102, 303);
        guard.driver(0);
        guard.mark(5);
        guard.bits(0, 31);
        CHECK.dueNotes("nor is what is refused", guard, 102, 303);
    }
}
