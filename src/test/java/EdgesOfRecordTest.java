import java.util.ArrayList;
import java.util.List;

/** The term THE RECORD: the latest sixteen notes, what each of them is, and in which order they come. */
public final class EdgesOfRecordTest {
    private static final Check CHECK = new Check("EdgesOfRecordTest");

    public static void main(String[] args) {
        latestSixteen();
        severalInOneCall();
        numberOfTheCycle();
        kindsAndValues();
        markNumbers();
        becomesWhatItWas();
        order();
        CHECK.end();
    }

    /** Each cycle before a message without bits makes the notes differ. */
    private static TrainGuard withNotes(int count) {
        TrainGuard guard = new TrainGuard(20, 10, 0);
        for (int i = 0; i < count; i++) {
            guard.message();
            guard.cycle(0);
        }
        return guard;
    }

    private static void latestSixteen() {
        CHECK.sentence("THE RECORD keeps the latest 16 notes");
        int[] counts = {0, 1, 2, 14, 15, 16, 17, 18, 31, 32, 33, 47, 48, 49};
        for (int count : counts) {
            TrainGuard guard = withNotes(count);
            for (int k = 0; k < 16; k++) {
                int want = k < count ? 10000 * (count - 1 - k) + 402 : -1;
                CHECK.due(count + " notes, note(" + k + ")", want, guard.note(k));
            }
            CHECK.due(count + " notes, note(16)", -1, guard.note(16));
        }
    }

    /** A message into FULL writes two notes, whatever place of the record they come to. */
    private static void severalInOneCall() {
        CHECK.sentence("the latest 16 notes (when one call makes several)");
        for (int count = 12; count <= 18; count++) {
            TrainGuard guard = withNotes(count);
            guard.driver(0);
            CHECK.due("into FULL", 0, Telegram.of(3, 1).authority(300, 0, 0).profile(0, 20).to(guard));
            int now = 10000 * count;
            List<Integer> want = new ArrayList<>();
            for (int i = 0; i < count; i++) {
                want.add(10000 * i + 402);
            }
            want.addAll(List.of(now + 700, now + 101, now + 303, now + 102));
            for (int k = 0; k < 16; k++) {
                int at = want.size() - 1 - k;
                CHECK.due(count + " notes and 4, note(" + k + ")", at < 0 ? -1 : want.get(at), guard.note(k));
            }
        }
    }

    private static void numberOfTheCycle() {
        CHECK.sentence("10000 * the number of the cycle (0 before the first)");
        int[] cycles = {0, 1, 2, 9, 10, 99, 100, 255, 256, 480};
        for (int cycle : cycles) {
            TrainGuard guard = new TrainGuard(20, 10, 0);
            for (int i = 0; i < cycle; i++) {
                guard.cycle(0);
            }
            guard.message();
            CHECK.due("a note after " + cycle + " cycles", 10000 * cycle + 402, guard.note(0));
            guard.cycle(-1);
            CHECK.dueNotes("notes of the next cycle itself", guard, 10000 * cycle + 10106, 10000 * cycle + 10202);
        }
    }

    private static void kindsAndValues() {
        CHECK.sentence("kind 1: the mode became the value; 2: the command became the value");
        TrainGuard guard = new TrainGuard(20, 10, 0);
        guard.cycle(7);
        CHECK.dueRecord("command 1 in STAND BY", guard, 10201);
        guard.cycle(8);
        CHECK.dueRecord("command 2", guard, 10201, 20202);
        guard.cycle(0);
        CHECK.dueRecord("command 0", guard, 10201, 20202, 30200);
        CHECK.sentence("3: a message was taken, the value is its KIND");
        Telegram.of(3, 1).authority(300, 0, 0).to(guard);
        Telegram.shorten(2, 300).to(guard);
        Telegram.of(24, 3).to(guard);
        Telegram.stop(4).to(guard);
        CHECK.dueNotes("each kind", guard, 30303, 30309, 30324, 30316, 30104);
        CHECK.sentence("7: the driver was heard, the value is what");
        guard.driver(2);
        guard.driver(0);
        Telegram.of(3, 5).authority(300, 0, 1).profile(0, 20).to(guard);
        guard.driver(1);
        CHECK.dueNotes("each deed", guard, 30702, 30105, 30700, 30101, 30303, 30103, 30701);
        faults();
    }

    private static void faults() {
        CHECK.sentence("4: a message had the fault that is the value");
        for (int fault = 1; fault <= 12; fault++) {
            TrainGuard guard = new TrainGuard(20, 10, 0);
            if (fault == 9) {
                Telegram.stop(0).to(guard);
            }
            if (fault == 11) {
                Telegram.of(3, 0).authority(1, 0, 0).to(guard);
            }
            if (fault == 3) {
                Telegram.of(24, 5).to(guard);
            }
            for (int i = 0; fault == 12 && i < 6; i++) {
                Telegram.of(24, i).restriction(i, 1, 1, 1).to(guard);
            }
            guard.cycle(0);
            int command = fault == 9 ? 10202 : guard.note(0);
            CHECK.due("fault " + fault, fault, withFault(fault).to(guard));
            CHECK.dueNotes("its note", guard, command, 10400 + fault);
        }
    }

    private static Telegram withFault(int fault) {
        switch (fault) {
            case 1:
                return Telegram.of(1, 10);
            case 2:
                return Telegram.raw("");
            case 3:
                return Telegram.of(24, 5);
            case 4:
                return Telegram.of(24, 10).put(4, 8);
            case 5:
                return Telegram.of(24, 10).packet(66, -1, 1, 8);
            case 6:
                return Telegram.of(24, 10).profile();
            case 7:
                return Telegram.of(24, 10).grades().grades();
            case 8:
                return Telegram.of(3, 10);
            case 9:
                return Telegram.of(24, 10);
            case 10:
                return Telegram.shorten(10, 1);
            case 11:
                return Telegram.shorten(10, 2);
            default:
                return Telegram.of(24, 10).restriction(6, 1, 1, 1);
        }
    }

    private static void markNumbers() {
        CHECK.sentence("5: a mark was passed, the value is its number % 100");
        int[] numbers = {0, 1, 98, 99, 100, 101, 198, 199, 200, 201, 254, 255};
        int[] values = {0, 1, 98, 99, 0, 1, 98, 99, 0, 1, 54, 55};
        for (int i = 0; i < numbers.length; i++) {
            TrainGuard guard = new TrainGuard(20, 10, 0);
            Telegram.of(24, 1).marks(0, numbers[i], 0).to(guard);
            guard.mark(numbers[i]);
            CHECK.dueRecord("mark " + numbers[i], guard, 324, 500 + values[i]);
        }
        CHECK.sentence("6: a fault of marks, the value 0");
        TrainGuard guard = new TrainGuard(20, 10, 0);
        Telegram.of(24, 1).marks(1, 77, 9).to(guard);
        guard.mark(77);
        CHECK.dueRecord("HIGH below the mark", guard, 324, 577, 600);
    }

    private static void becomesWhatItWas() {
        CHECK.sentence("A mode or command that becomes what it was makes no note.");
        TrainGuard guard = new TrainGuard(20, 10, 0);
        guard.cycle(0);
        guard.cycle(0);
        CHECK.dueRecord("command 0", guard);
        Telegram.stop(1).to(guard);
        Telegram.stop(2).to(guard);
        CHECK.dueRecord("TRIP in TRIP", guard, 20316, 20104, 20316);
        guard.cycle(5);
        guard.cycle(5);
        CHECK.dueRecord("command 2 again", guard, 20316, 20104, 20316, 30202);
        guard.cycle(501);
        guard.cycle(501);
        guard.cycle(0);
        CHECK.dueRecord("FAILED in FAILED", guard, 20316, 20104, 20316, 30202, 50106);
        TrainGuard full = Rides.full(20, 10, 0, 300, 0);
        Telegram.of(3, 1).authority(299, 0, 0).to(full);
        CHECK.dueRecord("FULL in FULL", full, 303, 700, 102, 303);
        TrainGuard onSight = Rides.onSight(300);
        Telegram.of(3, 1).authority(299, 0, 1).to(onSight);
        CHECK.dueRecord("ON SIGHT in ON SIGHT", onSight, 303, 700, 103, 303);
    }

    private static void order() {
        CHECK.sentence("In the things that happen in a call the notes come in the order in which they happen.");
        TrainGuard marked = Rides.full(20, 10, 0, 300, 0);
        Telegram.of(24, 1).marks(1, 4, 0).to(marked);
        marked.mark(4);
        CHECK.dueNotes("a mark, its fault, the trip", marked, 324, 504, 600, 104);
        TrainGuard missed = Rides.full(20, 10, 0, 300, 0);
        Telegram.of(24, 1).marks(1, 4, 0).to(missed);
        missed.cycle(20);
        CHECK.dueNotes("a fault of marks, the trip, the command", missed, 324, 10600, 10104, 10202);
        TrainGuard beyond = Rides.full(20, 10, 0, 1, 0);
        beyond.cycle(20);
        CHECK.dueNotes("the trip, the command", beyond, 102, 10104, 10202);
        TrainGuard failed = Rides.staff();
        failed.cycle(-1);
        CHECK.dueNotes("the mode, the command", failed, 101, 10106, 10202);
        TrainGuard stopped = Rides.staff();
        Telegram.stop(1).to(stopped);
        CHECK.dueNotes("the message, the mode", stopped, 101, 316, 104);
    }
}
