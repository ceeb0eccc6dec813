/** The term MESSAGES: of two faults in one message the one that is met first is the answer. */
public final class EdgesOfFirstFaultTest {
    private static final Check CHECK = new Check("EdgesOfFirstFaultTest");

    public static void main(String[] args) {
        CHECK.sentence("A message is read from its beginning; the first fault that is met is the answer");
        kindFirst();
        lengthBeforeAllElse();
        timeBeforeAllBehindIt();
        idFirst();
        sizeBeforeNumbers();
        numbersInTheirOrder();
        packetsInTheirOrder();
        readingBeforeJudging();
        judgingInItsOrder();
        CHECK.sentence("and then nothing else of it happens.");
        nothingElseHappens();
        nothingIsLeftOver();
        CHECK.end();
    }

    /** In FULL at rest with END 3000 and six restrictions, 0 to 5; the TIME of the latest message is 9. */
    private static TrainGuard guard() {
        TrainGuard guard = new TrainGuard(20, 10, 100);
        for (int i = 0; i < 6; i++) {
            Telegram.of(24, i).restriction(i, 1000 + i, 1, 50).to(guard);
        }
        return Rides.started(guard, Telegram.of(3, 9).authority(300, 0, 0).profile(0, 100).marks(20, 1, 0));
    }

    private static void first(String what, int want, Telegram telegram) {
        firstIn(what, want, guard(), telegram);
    }

    private static void firstIn(String what, int want, TrainGuard guard, Telegram telegram) {
        String before = Check.scene(guard);
        int note = guard.note(0);
        CHECK.due(what, want, telegram.to(guard));
        CHECK.due(what + ": its note", 10000 * guard.state(5) + 400 + want, guard.note(0));
        CHECK.due(what + ": the note before it", note, guard.note(1));
        CHECK.due(what + ": the rest", true, before.equals(Check.scene(guard)));
    }

    private static TrainGuard tripped() {
        TrainGuard guard = guard();
        Telegram.stop(9 + 1).to(guard);
        return guard;
    }

    private static TrainGuard failed() {
        TrainGuard guard = guard();
        guard.cycle(501);
        return guard;
    }

    private static void kindFirst() {
        first("KIND, then no LENGTH", 1, Telegram.raw("").put(4, 8));
        first("KIND, then LENGTH", 1, Telegram.of(4, 10).lengthOffBy(1));
        first("KIND, then TIME", 1, Telegram.of(4, 9));
        first("KIND, then an ID", 1, Telegram.of(4, 10).put(1, 8));
        firstIn("KIND in TRIP", 1, tripped(), Telegram.of(4, 20));
        firstIn("KIND in FAILED", 1, failed(), Telegram.of(4, 20));
        first("bits of KIND before KIND", 2, Telegram.raw("0000001"));
    }

    private static void lengthBeforeAllElse() {
        first("LENGTH, then TIME", 2, Telegram.stop(9).lengthOffBy(1));
        first("LENGTH, then an ID (4)", 2, Telegram.of(24, 10).put(1, 8).lengthOffBy(1));
        first("LENGTH, then SIZE (5)", 2, Telegram.of(24, 10).packet(66, -1, 1, 8).lengthOffBy(1));
        first("LENGTH, then a number (6)", 2, Telegram.of(3, 10).authority(300, 0, 2).lengthOffBy(1));
        first("LENGTH, then an ID again (7)", 2, Telegram.of(24, 10).ended(9).ended(9).lengthOffBy(1));
        first("LENGTH, then no authority (8)", 2, Telegram.of(3, 10).lengthOffBy(1));
        firstIn("LENGTH, then TRIP (9)", 2, tripped(), Telegram.of(24, 20).lengthOffBy(1));
        firstIn("LENGTH, then no authority (10)", 2, Rides.staff(), Telegram.shorten(20, 1).lengthOffBy(1));
        first("LENGTH, then PLACE (11)", 2, Telegram.shorten(10, 301).lengthOffBy(1));
        first("LENGTH, then no room (12)", 2, Telegram.of(24, 10).restriction(7, 1, 1, 1).lengthOffBy(1));
    }

    private static void timeBeforeAllBehindIt() {
        first("TIME, then a bit too many (2)", 3, Telegram.stop(9).put(0, 1));
        first("TIME, then a PLACE too short (2)", 3, Telegram.of(9, 9).put(0, 14));
        first("TIME, then an ID (4)", 3, Telegram.of(24, 9).put(1, 8));
        first("TIME, then SIZE (5)", 3, Telegram.of(24, 9).packet(66, -1, 1, 8));
        first("TIME, then a number (6)", 3, Telegram.of(3, 9).authority(300, 0, 2));
        first("TIME, then an ID again (7)", 3, Telegram.of(24, 9).ended(9).ended(9));
        first("TIME, then no authority (8)", 3, Telegram.of(3, 9));
        firstIn("TIME, then TRIP (9)", 3, tripped(), Telegram.of(24, 10));
        firstIn("TIME, then FAILED (9)", 3, failed(), Telegram.of(24, 9));
        TrainGuard staff = Rides.staff();
        Telegram.of(24, 9).to(staff);
        firstIn("TIME, then no authority (10)", 3, staff, Telegram.shorten(9, 1));
        first("TIME, then PLACE (11)", 3, Telegram.shorten(9, 301));
        first("TIME, then no room (12)", 3, Telegram.of(24, 9).restriction(7, 1, 1, 1));
        first("bits of TIME before TIME", 2, Telegram.stop(0).cutTo(33));
    }

    private static void idFirst() {
        first("an ID, then SIZE too small", 4, Telegram.of(24, 10).put(1, 8).put(0, 13));
        first("an ID, then SIZE too great", 4, Telegram.of(24, 10).put(1, 8).put(8191, 13));
        first("an ID, then no SIZE", 4, Telegram.of(24, 10).put(1, 8).put(0, 12));
        first("an unknown ID twice", 4, Telegram.of(24, 10).packet(1, 0).packet(1, 0));
        first("an ID again, then SIZE too small", 7, Telegram.of(24, 10).ended(9).put(66, 8).put(20, 13));
        first("an ID again, then SIZE too great", 7, Telegram.of(24, 10).ended(9).put(66, 8).put(22, 13));
        first("an ID again, then no SIZE", 7, Telegram.of(24, 10).ended(9).put(66, 8));
        first("an ID again, then a number (6)", 7, Telegram.of(24, 10).profile(1, 1).profile());
        first("an ID again, then SIZE (5)", 7, Telegram.of(24, 10).ended(9).packet(66, -1, 1, 8));
        first("bits of an ID before the ID", 2, Telegram.of(24, 10).ended(9).put(66 >> 1, 7));
    }

    private static void sizeBeforeNumbers() {
        first("SIZE too small, then a number (6)", 2, Telegram.of(24, 10).packet(27, -4, 0, 3));
        first("SIZE too great, then a number (6)", 2, Telegram.of(24, 10).packet(27, 1, 0, 3));
        first("SIZE 20, then no numbers", 2, Telegram.of(24, 10).put(66, 8).put(20, 13));
        first("SIZE too great, then an ID again", 2, Telegram.of(24, 10).packet(66, 30, 1, 8).ended(1));
        first("SIZE too small, then an unknown ID", 2, Telegram.of(24, 10).packet(66, -9, 1, 8).put(1, 8));
    }

    private static void numbersInTheirOrder() {
        first("a number (6), then SIZE is less (5)", 6, Telegram.of(3, 10).packet(15, -1, 300, 15, 0, 10, 2, 2));
        first("a number (6), then SIZE is more (5)", 6,
                Telegram.of(3, 10).packet(15, 1, 300, 15, 0, 10, 2, 2).ended(1));
        first("a number (6), then bits that are not there", 6, Telegram.of(24, 10).packet(65, 0, 1, 8, 5, 15, 0, 15));
        first("a number (6), then more of them (6)", 6, Telegram.of(24, 10).marks(9, 1, 0, 8, 1, 0, 7, 1, 0));
        first("bits that are not there, before SIZE (5)", 2, Telegram.of(24, 10).packet(66, 0, 1, 7));
        first("numbers over SIZE (5) up to a wrong one (6)", 6,
                Telegram.of(24, 10).put(65, 8).put(21, 13).put(1, 8).put(5, 15).put(0, 15).put(1, 7));
        first("numbers over SIZE (5) up to the end (2)", 2,
                Telegram.of(24, 10).put(65, 8).put(21, 13).put(1, 8).put(5, 15).put(1, 15).put(1, 6));
        first("numbers over SIZE, all there (5)", 5,
                Telegram.of(24, 10).put(65, 8).put(21, 13).put(1, 8).put(5, 15).put(1, 15).put(1, 7));
    }

    private static void packetsInTheirOrder() {
        first("5, then 4", 5, Telegram.of(24, 10).packet(66, -1, 1, 8).put(1, 8));
        first("5, then 7", 5, Telegram.of(24, 10).packet(66, -1, 1, 8).ended(1));
        first("5, then 6", 5, Telegram.of(24, 10).packet(66, -1, 1, 8).profile());
        first("5, then bits of an ID", 5, Telegram.of(24, 10).packet(66, -1, 1, 8).put(0, 7));
        first("6, then 4", 6, Telegram.of(24, 10).profile().put(1, 8));
        first("6, then 7", 6, Telegram.of(24, 10).profile().profile(1, 1));
        first("6, then 5", 6, Telegram.of(24, 10).profile().packet(66, -1, 1, 8));
        first("6, then bits of an ID", 6, Telegram.of(24, 10).profile().put(0, 7));
        first("4, then 6", 4, Telegram.of(24, 10).packet(1, 0).profile());
        first("4, then 5", 4, Telegram.of(24, 10).packet(1, 0).packet(66, -1, 1, 8));
        first("7, then 4", 7, Telegram.of(24, 10).grades().grades().put(1, 8));
        first("7, then 6", 7, Telegram.of(24, 10).grades().grades().profile());
        first("4, then 7", 4, Telegram.of(24, 10).grades().put(1, 8).grades());
    }

    private static void readingBeforeJudging() {
        Telegram[] read = {
            Telegram.of(3, 20).put(0, 7), Telegram.of(3, 20).put(1, 8), Telegram.of(3, 20).packet(66, -1, 1, 8),
            Telegram.of(3, 20).profile(), Telegram.of(3, 20).ended(1).ended(1),
        };
        int[] faults = {2, 4, 5, 6, 7};
        for (int i = 0; i < faults.length; i++) {
            first(faults[i] + ", then 8 and 12", faults[i], read[i]);
            firstIn(faults[i] + ", then 8 and 9 in TRIP", faults[i], tripped(), read[i]);
            firstIn(faults[i] + ", then 8 and 9 in FAILED", faults[i], failed(), read[i]);
        }
        first("2, then 12", 2, Telegram.of(24, 20).restriction(7, 1, 1, 1).put(0, 7));
        first("4, then 12", 4, Telegram.of(24, 20).restriction(7, 1, 1, 1).put(1, 8));
        first("4 behind an authority, then 8", 4, Telegram.of(24, 20).authority(300, 0, 0).put(1, 8));
        first("2 in kind 9, then 11", 2, Telegram.shorten(20, 301).put(0, 1));
        firstIn("2 in kind 9, then 10", 2, Rides.staff(), Telegram.shorten(20, 301).put(0, 1));
        firstIn("2 in kind 16, then 9", 2, failed(), Telegram.stop(20).put(0, 1));
    }

    private static void judgingInItsOrder() {
        firstIn("8, then 9 in TRIP: kind 3", 8, tripped(), Telegram.of(3, 20));
        firstIn("8, then 9 in FAILED: kind 3", 8, failed(), Telegram.of(3, 20));
        firstIn("8, then 9 in TRIP: kind 24", 8, tripped(), Telegram.of(24, 20).authority(300, 0, 0));
        firstIn("8, then 9 in FAILED: kind 24", 8, failed(), Telegram.of(24, 20).authority(300, 0, 0));
        first("8, then 12", 8, Telegram.of(3, 20).restriction(7, 1, 1, 1));
        first("8, then 12: kind 24", 8, Telegram.of(24, 20).authority(300, 0, 0).restriction(7, 1, 1, 1));
        firstIn("9, then 10 in TRIP", 9, tripped(), Telegram.shorten(20, 300));
        firstIn("9, then 10 in FAILED", 9, Rides.failed(), Telegram.shorten(20, 300));
        firstIn("9, then 11 in FAILED", 9, failed(), Telegram.shorten(20, 301));
        firstIn("9, then 12 in TRIP", 9, tripped(), Telegram.of(24, 20).restriction(7, 1, 1, 1));
        firstIn("9, then 12 in FAILED", 9, failed(), Telegram.of(24, 20).restriction(7, 1, 1, 1));
        firstIn("10, then 11", 10, Rides.staff(), Telegram.shorten(20, 32767));
        first("11 alone", 11, Telegram.shorten(20, 301));
        first("12 alone", 12, Telegram.of(24, 20).restriction(7, 1, 1, 1));
        first("12 in kind 3", 12, Telegram.of(3, 20).authority(100, 0, 1).restriction(7, 1, 1, 1));
    }

    /** Packets that would do much, if it were not for the fault behind them. */
    private static Telegram much(int kind) {
        return Telegram.of(kind, 20).marks(5, 5, 5).ended(0).grades(0, 9).authority(5, 0, 1);
    }

    private static void nothingElseHappens() {
        first("much, then 2", 2, much(3).profile(0, 2).put(0, 7));
        first("much, then 4", 4, much(3).profile(0, 2).put(1, 8));
        first("much, then 5", 5, much(3).profile(0, 2).packet(65, -1, 1, 8, 0, 15, 1, 15, 1, 7));
        first("much, then 6", 6, much(3).profile(0, 2, 0, 2));
        first("much, then 7", 7, much(3).profile(0, 2).ended(1));
        first("much, then 8", 8, much(24).profile(0, 2).restriction(0, 0, 1, 1));
        firstIn("much, then 9", 9, tripped(), much(3).profile(0, 2).restriction(0, 0, 1, 1));
        first("much, then 12", 12, Telegram.of(3, 20).marks(5, 5, 5).ended(77).grades(0, 9).authority(5, 0, 1)
                .profile(0, 2).restriction(7, 0, 1, 1));
        TrainGuard guard = guard();
        firstIn("a PLACE with fault 11 and TIME 20", 11, guard, Telegram.shorten(20, 301));
        CHECK.due("TIME 20 is not the latest", 0, Telegram.of(24, 10).to(guard));
    }

    /** A message that is taken does what it says itself, and nothing that one with a fault said before it. */
    private static void nothingIsLeftOver() {
        Telegram[] faulty = {
            Telegram.of(3, 20).marks(5, 5, 5).ended(0).grades(0, 9).authority(5, 0, 1).profile(0, 2).put(1, 8),
            Telegram.of(24, 20).restriction(0, 0, 1, 1).ended(1).put(0, 3),
            Telegram.of(24, 20).restriction(7, 0, 1, 1),
            Telegram.shorten(20, 301),
            Telegram.of(24, 20).authority(5, 0, 1),
        };
        for (Telegram telegram : faulty) {
            TrainGuard guard = guard();
            CHECK.due("a fault", true, telegram.to(guard) != 0);
            String before = Check.scene(guard);
            CHECK.due("a message without packets", 0, Telegram.of(24, 10).to(guard));
            CHECK.due("does nothing", true, before.equals(Check.scene(guard)));
            CHECK.due("an authority alone", 0, Telegram.of(3, 11).authority(299, 0, 0).to(guard));
            CHECK.due("changes END", 2990, guard.display(2));
            CHECK.due("and not the mode", 2, guard.mode());
            CHECK.due("nor the profile", 500, guard.limit(0));
            CHECK.due("nor the restrictions", 250, guard.limit(10000));
            CHECK.due("nor the marks", 200004, guard.marks(0));
        }
    }
}
