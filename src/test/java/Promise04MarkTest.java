/** Promise 4: a passed mark makes the uncertainty smaller, or is a fault. */
public final class Promise04MarkTest {
    private static final Check CHECK = new Check("Promise04MarkTest");

    public static void main(String[] args) {
        noSuchMark();
        narrows();
        numbersInNotes();
        edges();
        edgesWithoutTrip();
        leftOut();
        leftOutInStaff();
        sameNumberTwice();
        CHECK.end();
    }

    /** Marks 7 at 50 (accuracy 5), 200 at 100 (10) and 7 at 150 (0). */
    private static TrainGuard inFull() {
        TrainGuard guard = Rides.full(20, 10, 0, 300, 0);
        Telegram.of(24, 1).marks(5, 7, 5, 10, 200, 10, 15, 7, 0).to(guard);
        return guard;
    }

    private static void noSuchMark() {
        TrainGuard guard = inFull();
        guard.cycle(48);
        String before = Check.picture(guard);
        int[] wrong = {0, 6, 8, 100, -1, 256, 263, Integer.MIN_VALUE, Integer.MAX_VALUE};
        for (int number : wrong) {
            CHECK.due("mark(" + number + ")", false, guard.mark(number));
        }
        CHECK.due("nothing changed", true, before.equals(Check.picture(guard)));
        CHECK.due("no marks at all", false, new TrainGuard(9, 9, 9).mark(0));
    }

    private static void narrows() {
        TrainGuard guard = inFull();
        guard.cycle(48);
        CHECK.due("LOW before", 44, guard.state(0));
        CHECK.due("HIGH before", 52, guard.state(1));
        CHECK.due("mark 7", true, guard.mark(7));
        CHECK.due("LOW is raised", 45, guard.state(0));
        CHECK.due("HIGH was less", 52, guard.state(1));
        CHECK.due("its note", 10507, guard.note(0));
        CHECK.due("it is passed", 50029, guard.marks(0));
        CHECK.due("the next is not", 100800, guard.marks(1));
        guard.cycle(55);
        CHECK.due("LOW before", 96, guard.state(0));
        CHECK.due("HIGH before", 111, guard.state(1));
        CHECK.due("mark 200", true, guard.mark(200));
        CHECK.due("LOW was more", 96, guard.state(0));
        CHECK.due("HIGH is lowered", 110, guard.state(1));
        CHECK.due("no mark 200 any more", false, guard.mark(200));
        CHECK.due("TOP stays", 59, guard.state(2));
        CHECK.due("FULL", 2, guard.mode());
    }

    private static void numbersInNotes() {
        TrainGuard guard = new TrainGuard(20, 10, 0);
        Telegram.of(24, 1).marks(0, 99, 0, 1, 100, 10, 2, 255, 20, 3, 0, 30).to(guard);
        guard.mark(99);
        guard.mark(100);
        guard.mark(255);
        guard.mark(0);
        CHECK.dueNotes("number % 100", guard, 599, 500, 555, 500);
    }

    /** After 40 pulses LOW is 37 and HIGH is 43. */
    private static void edges() {
        TrainGuard near = Rides.full(20, 10, 0, 300, 0);
        Telegram.of(24, 1).marks(5, 1, 7).to(near);
        near.cycle(40);
        CHECK.due("HIGH at place - accuracy", true, near.mark(1));
        CHECK.due("it stays in FULL", 2, near.mode());
        CHECK.due("LOW is HIGH", 43, near.state(0));
        CHECK.due("HIGH", 43, near.state(1));
        TrainGuard far = Rides.full(20, 10, 0, 300, 0);
        Telegram.of(24, 1).marks(5, 1, 6).to(far);
        far.cycle(40);
        CHECK.due("HIGH below place - accuracy", true, far.mark(1));
        CHECK.due("it trips", 4, far.mode());
        CHECK.due("LOW stays", 37, far.state(0));
        CHECK.due("HIGH stays", 43, far.state(1));
        CHECK.dueNotes("a fault", far, 10501, 10600, 10104);
        CHECK.due("no marks", -1, far.marks(0));
        TrainGuard onSight = Rides.onSight(300);
        Telegram.of(24, 1).marks(5, 1, 6).to(onSight);
        onSight.cycle(40);
        onSight.mark(1);
        CHECK.due("it trips in ON SIGHT", 4, onSight.mode());
        CHECK.due("nothing is asked any more", 0, onSight.state(4));
    }

    private static void edgesWithoutTrip() {
        TrainGuard at = Rides.staff();
        Telegram.of(24, 1).marks(3, 1, 7).to(at);
        at.cycle(40);
        CHECK.due("LOW at place + accuracy", true, at.mark(1));
        CHECK.due("LOW", 37, at.state(0));
        CHECK.due("HIGH is LOW", 37, at.state(1));
        CHECK.due("its note", 10501, at.note(0));
        TrainGuard behind = Rides.staff();
        Telegram.of(24, 1).marks(3, 1, 6).to(behind);
        behind.cycle(40);
        CHECK.due("LOW above place + accuracy", true, behind.mark(1));
        CHECK.due("LOW stays", 37, behind.state(0));
        CHECK.due("HIGH stays", 43, behind.state(1));
        CHECK.dueNotes("a fault without a trip", behind, 10501, 10600);
        CHECK.due("STAFF", 1, behind.mode());
        CHECK.due("it is passed", 30005, behind.marks(0));
    }

    private static void leftOut() {
        TrainGuard guard = Rides.full(20, 10, 0, 300, 0);
        Telegram.of(24, 1).marks(5, 7, 20, 6, 200, 20).to(guard);
        guard.cycle(48);
        CHECK.due("mark 200 first, which the front may be at", true, guard.mark(200));
        CHECK.due("it trips", 4, guard.mode());
        CHECK.dueNotes("a note for it alone", guard, 324, 10500, 10600, 10104);
    }

    private static void leftOutInStaff() {
        TrainGuard guard = Rides.staff();
        Telegram.of(24, 1).marks(0, 1, 0, 1, 2, 20, 2, 3, 20, 3, 4, 0).to(guard);
        CHECK.due("mark 3 before 1 and 2", true, guard.mark(3));
        CHECK.dueNotes("a fault", guard, 324, 503, 600);
        CHECK.due("mark 1 is passed", 5, guard.marks(0));
        CHECK.due("mark 2 is passed", 10009, guard.marks(1));
        CHECK.due("mark 3 is passed", 20013, guard.marks(2));
        CHECK.due("mark 4 is not", 30016, guard.marks(3));
        CHECK.due("LOW stays", 0, guard.state(0));
        CHECK.due("HIGH stays", 0, guard.state(1));
        CHECK.due("mark 2 now", false, guard.mark(2));
    }

    private static void sameNumberTwice() {
        TrainGuard guard = inFull();
        guard.cycle(48);
        guard.mark(7);
        guard.cycle(48);
        guard.mark(200);
        guard.cycle(48);
        CHECK.due("the second mark 7", true, guard.mark(7));
        CHECK.due("LOW", 150, guard.state(0));
        CHECK.due("HIGH", 150, guard.state(1));
        CHECK.due("no third mark 7", false, guard.mark(7));
    }
}
