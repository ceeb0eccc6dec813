import java.util.Arrays;
import java.util.Set;

/** The term MESSAGES: each fault that is met while a message is read, on both sides of its boundary. */
public final class EdgesOfReadingTest {
    private static final Check CHECK = new Check("EdgesOfReadingTest");
    private static final Set<Integer> KINDS = Set.of(3, 9, 16, 24);
    private static final Set<Integer> IDS = Set.of(5, 15, 21, 27, 65, 66);

    /** For each packet an ID and then its numbers, each with its bits, all of them as they may be. */
    private static final int[][] PACKETS = {
        {5, 2, 3, 4, 15, 255, 8, 63, 6, 5, 15, 0, 8, 0, 6},
        {15, 32767, 15, 1023, 10, 1, 2},
        {21, 2, 3, 0, 15, 63, 6, 1, 15, 0, 6},
        {27, 2, 3, 7, 15, 127, 7, 8, 15, 0, 7},
        {65, 255, 8, 32767, 15, 1, 15, 127, 7},
        {66, 255, 8},
    };

    public static void main(String[] args) {
        kinds();
        lengths();
        times();
        bitsOfTheHead();
        bitsOfThePackets();
        nothingElse();
        untilNoBitsAreLeft();
        ids();
        idsThatCameBefore();
        sizes();
        places();
        counts();
        otherNumbers();
        asSoonAsItHasBeenRead();
        whereSizeSays();
        scales();
        theLongest();
        CHECK.end();
    }

    private static TrainGuard fresh() {
        return new TrainGuard(20, 10, 100);
    }

    private static void answer(String what, int want, Telegram telegram) {
        TrainGuard guard = fresh();
        String before = Check.scene(guard);
        CHECK.due(what, want, telegram.to(guard));
        CHECK.due(what + ": bits left", 0, guard.state(6));
        if (want != 0) {
            CHECK.dueRecord(what + ": its note alone", guard, 400 + want);
            CHECK.due(what + ": nothing else happens", true, before.equals(Check.scene(guard)));
        }
    }

    private static int kindFor(int id) {
        return id == 15 ? 3 : 24;
    }

    private static void kinds() {
        CHECK.sentence("KIND (8 bits): 3, 9, 16 or 24, else fault 1.");
        for (int kind = 0; kind < 256; kind++) {
            // Known kinds are read on: 3 misses its authority, 9 its PLACE.
            int whole = kind == 3 ? 8 : kind == 9 ? 2 : KINDS.contains(kind) ? 0 : 1;
            answer("KIND " + kind, whole, Telegram.of(kind, 1));
        }
    }

    private static void lengths() {
        CHECK.sentence("LENGTH (10 bits): must be the number of bits of the whole message, else fault 2.");
        for (int length = 0; length < 1024; length++) {
            answer("LENGTH " + length + " of 34", length == 34 ? 0 : 2, Telegram.stop(1).lengthOffBy(length - 34));
        }
        answer("LENGTH 48 of 49", 2, Telegram.shorten(1, 0).lengthOffBy(-1));
        answer("LENGTH 49 of 49", 10, Telegram.shorten(1, 0));
        answer("LENGTH 50 of 49", 2, Telegram.shorten(1, 0).lengthOffBy(1));
        answer("LENGTH of the first packet alone", 2, Telegram.of(24, 1).grades().grades().lengthOffBy(-24));
    }

    private static void times() {
        CHECK.sentence("TIME (16 bits): must be greater than that of the latest message that was taken"
                + " (-1 if there was none), else fault 3.");
        answer("0 as the first", 0, Telegram.of(24, 0));
        answer("65535 as the first", 0, Telegram.of(24, 65535));
        TrainGuard guard = fresh();
        int[] times = {0, 0, 1, 1, 0, 2, 255, 256, 255, 257, 32767, 32768, 32767, 65534, 65534, 65535, 65535, 0, 1};
        int latest = -1;
        for (int time : times) {
            boolean later = time > latest;
            CHECK.due("TIME " + time + " after " + latest, later ? 0 : 3, Telegram.of(24, time).to(guard));
            latest = later ? time : latest;
        }
        TrainGuard faulty = fresh();
        CHECK.due("TIME 9 with fault 10", 10, Telegram.shorten(9, 0).to(faulty));
        CHECK.due("TIME 8 with fault 4", 4, Telegram.of(24, 8).put(0, 8).to(faulty));
        CHECK.due("TIME 0: no message was taken yet", 0, Telegram.of(24, 0).to(faulty));
        CHECK.due("TIME 9 with fault 2", 2, Telegram.of(24, 9).put(0, 1).to(faulty));
        CHECK.due("TIME 1: that of 9 was not taken", 0, Telegram.of(24, 1).to(faulty));
        CHECK.due("kind 16 is taken too", 0, Telegram.stop(5).to(faulty));
        CHECK.due("TIME 5 of another kind", 3, Telegram.stop(5).to(faulty));
    }

    private static void bitsOfTheHead() {
        CHECK.sentence("Wherever bits are wanted that are not there (fewer are left than the number has): fault 2.");
        for (int size = 0; size < 34; size++) {
            String bits = Telegram.stop(1).bits().substring(0, size);
            answer(size + " bits of kind 16", 2, size < 18 ? Telegram.raw(bits) : Telegram.stop(1).cutTo(size));
        }
        for (int size = 34; size < 49; size++) {
            answer(size + " bits of kind 9", 2, Telegram.shorten(1, 32767).cutTo(size));
        }
        answer("all 34 bits of kind 16", 0, Telegram.stop(1));
        answer("all 49 bits of kind 9", 10, Telegram.shorten(1, 32767));
        for (int size = 1; size < 21; size++) {
            answer(size + " bits of a packet", 2, Telegram.of(24, 1).ended(1).cutTo(34 + size));
        }
    }

    /** SIZE counts the bits that are there, so that the numbers alone miss some. */
    private static void bitsOfThePackets() {
        CHECK.sentence("Wherever bits are wanted that are not there (in a packet's numbers): fault 2.");
        for (int[] packet : PACKETS) {
            String numbers = numbersOf(packet);
            for (int there = 0; there <= numbers.length(); there++) {
                Telegram telegram = Telegram.of(kindFor(packet[0]), 1).put(packet[0], 8).put(21 + there, 13);
                for (int i = 0; i < there; i++) {
                    telegram.put(numbers.charAt(i) - '0', 1);
                }
                answer("packet " + packet[0] + " with " + there + " bits of its numbers",
                        there == numbers.length() ? 0 : 2, telegram);
            }
        }
    }

    private static String numbersOf(int[] packet) {
        Telegram numbers = Telegram.raw("");
        for (int i = 1; i < packet.length; i += 2) {
            numbers.put(packet[i], packet[i + 1]);
        }
        return numbers.bits();
    }

    private static void nothingElse() {
        CHECK.sentence("Kind 16 has nothing else; kind 9 a PLACE (15 bits); when bits are left behind these: fault 2.");
        answer("kind 16 and nothing else", 0, Telegram.stop(1));
        answer("kind 16 and 1 bit", 2, Telegram.stop(1).put(0, 1));
        answer("kind 16 and a packet", 2, Telegram.stop(1).ended(1));
        answer("kind 9 and a PLACE", 10, Telegram.shorten(1, 5));
        answer("kind 9 and 1 bit more", 2, Telegram.shorten(1, 5).put(0, 1));
        answer("kind 9 and a packet", 2, Telegram.shorten(1, 5).ended(1));
        answer("kind 16 with a PLACE", 2, Telegram.stop(1).put(5, 15));
        TrainGuard guard = Rides.full(20, 10, 0, 300, 0);
        CHECK.due("kind 9 and 1 bit more, with an authority", 2, Telegram.shorten(1, 5).put(0, 1).to(guard));
        CHECK.due("END stays", 3000, guard.display(2));
    }

    private static void untilNoBitsAreLeft() {
        CHECK.sentence("Kinds 3 and 24 have packets until no bits are left.");
        answer("kind 24, no packet", 0, Telegram.of(24, 1));
        answer("kind 24, one packet", 0, Telegram.of(24, 1).grades());
        answer("kind 24, two packets", 0, Telegram.of(24, 1).grades().ended(1));
        answer("kind 3, one packet", 0, Telegram.of(3, 1).authority(1, 0, 0));
        answer("kind 24, five packets", 0,
                Telegram.of(24, 1).ended(1).restriction(1, 1, 1, 1).profile(0, 1).grades().marks());
        answer("kind 3, six packets", 0, Telegram.of(3, 1).ended(1).restriction(1, 1, 1, 1).profile(0, 1).grades()
                .authority(1, 0, 0).marks());
        for (int more = 1; more < 8; more++) {
            answer(more + " bits behind a packet", 2, Telegram.of(24, 1).grades().put(0, more));
        }
        answer("8 bits behind a packet are an ID", 4, Telegram.of(24, 1).grades().put(0, 8));
    }

    private static void ids() {
        CHECK.sentence("A packet: ID (8 bits): 5, 15, 21, 27, 65 or 66, else fault 4");
        for (int id = 0; id < 256; id++) {
            answer("ID " + id + " without a SIZE", IDS.contains(id) ? 2 : 4, Telegram.of(24, 1).put(id, 8));
            answer("ID " + id + " behind another packet", IDS.contains(id) ? id == 66 ? 7 : 2 : 4,
                    Telegram.of(24, 1).ended(1).put(id, 8));
        }
        for (int[] packet : PACKETS) {
            answer("ID " + packet[0] + " with all its numbers", 0, withPacket(packet, 0));
        }
    }

    private static Telegram withPacket(int[] packet, int sizeOff) {
        int[] numbers = Arrays.copyOfRange(packet, 1, packet.length);
        return Telegram.of(kindFor(packet[0]), 1).packet(packet[0], sizeOff, numbers);
    }

    private static void idsThatCameBefore() {
        CHECK.sentence("an ID that came before in this message is fault 7");
        for (int[] first : PACKETS) {
            for (int[] second : PACKETS) {
                boolean same = first[0] == second[0];
                Telegram telegram = withPacket(first, 0);
                int there = telegram.size();
                telegram.put(second[0], 8).put(same ? 0 : 21, 13);
                answer("ID " + second[0] + " behind " + first[0], same ? 7 : 2, telegram);
                answer("its ID alone", same ? 7 : 2, telegram.cutTo(there + 8));
                answer("7 bits of its ID", 2, telegram.cutTo(there + 7));
            }
        }
        TrainGuard guard = fresh();
        CHECK.due("an ID", 0, Telegram.of(24, 1).ended(1).to(guard));
        CHECK.due("the same in the next message", 0, Telegram.of(24, 2).ended(1).to(guard));
        CHECK.due("an ID, then fault 4", 4, Telegram.of(24, 3).ended(1).put(0, 8).to(guard));
        CHECK.due("the same in the next message", 0, Telegram.of(24, 3).ended(1).to(guard));
    }

    private static void sizes() {
        CHECK.sentence("SIZE (13 bits): the bits of the packet, these 21 included: fewer than 21 or more than"
                + " the bits of the packet that are there up to the end of the message: fault 2.");
        for (int size = 0; size < 8192; size++) {
            Telegram alone = Telegram.of(24, 1).put(66, 8).put(size, 13).put(1, 8);
            int inside = size == 29 ? 0 : 5;
            answer("SIZE " + size + ", 29 bits there", size < 21 || size > 29 ? 2 : inside, alone);
            Telegram followed = Telegram.of(24, 1).put(66, 8).put(size, 13).put(1, 8).grades();
            answer("SIZE " + size + ", 53 bits there", size < 21 || size > 53 ? 2 : inside, followed);
        }
        answer("SIZE 30 of the second packet, 29 there", 2, Telegram.of(24, 1).grades().packet(66, 1, 1, 8));
        answer("SIZE 29 of the second packet, 29 there", 0, Telegram.of(24, 1).grades().packet(66, 0, 1, 8));
    }

    private static void places() {
        CHECK.sentence("place (15 bits, greater than that before it)");
        int[] next = {0, 99, 100, 101, 32767};
        for (int place : next) {
            int want = place > 100 ? 0 : 6;
            answer("marks at 100, " + place, want, Telegram.of(24, 1).marks(100, 1, 0, place, 2, 0));
            answer("grades at 100, " + place, want, Telegram.of(24, 1).grades(100, 1, place, 2));
            answer("steps at 100, " + place, want, Telegram.of(24, 1).profile(100, 1, place, 2));
        }
        answer("a first mark at 0", 0, Telegram.of(24, 1).marks(0, 1, 0));
        answer("a first grade at 0", 0, Telegram.of(24, 1).grades(0, 1));
        answer("a first step at 0", 0, Telegram.of(24, 1).profile(0, 1));
        answer("two marks at 0", 6, Telegram.of(24, 1).marks(0, 1, 0, 0, 2, 0));
        answer("two grades at 0", 6, Telegram.of(24, 1).grades(0, 1, 0, 2));
        answer("two steps at 0", 6, Telegram.of(24, 1).profile(0, 1, 0, 2));
        for (int last = 5; last <= 7; last++) {
            int want = last > 6 ? 0 : 6;
            answer("the seventh mark at " + last, want, Telegram.of(24, 1)
                    .marks(1, 1, 0, 2, 1, 0, 3, 1, 0, 4, 1, 0, 5, 1, 0, 6, 1, 0, last, 1, 0));
            answer("the seventh grade at " + last, want, Telegram.of(24, 1)
                    .grades(1, 1, 2, 1, 3, 1, 4, 1, 5, 1, 6, 1, last, 1));
            answer("the seventh step at " + last, want, Telegram.of(24, 1)
                    .profile(1, 1, 2, 1, 3, 1, 4, 1, 5, 1, 6, 1, last, 1));
        }
        answer("greater than the one before it, not than all", 6, Telegram.of(24, 1).profile(5, 1, 3, 1, 4, 1));
        answer("each packet begins anew", 0, Telegram.of(24, 1).profile(9, 1).grades(8, 1).marks(7, 1, 0));
    }

    private static void counts() {
        CHECK.sentence("5 MARKS: N (3 bits) .. 21 GRADES: N (3) .. 27 PROFILE: N (3, not 0)");
        for (int n = 0; n <= 7; n++) {
            int[] marks = new int[3 * n];
            int[] steps = new int[2 * n];
            for (int i = 0; i < n; i++) {
                marks[3 * i] = i;
                steps[2 * i] = i;
            }
            answer(n + " marks", 0, Telegram.of(24, 1).marks(marks));
            answer(n + " grades", 0, Telegram.of(24, 1).grades(steps));
            answer(n + " steps", n == 0 ? 6 : 0, Telegram.of(24, 1).profile(steps));
        }
    }

    private static void otherNumbers() {
        CHECK.sentence("mode (2 bits: 0 FULL, 1 ON SIGHT) .. length (15, not 0)");
        for (int mode = 0; mode <= 3; mode++) {
            answer("mode " + mode, mode < 2 ? 0 : 6, Telegram.of(3, 1).authority(9, 0, mode));
        }
        answer("length 0", 6, Telegram.of(24, 1).restriction(1, 5, 0, 9));
        answer("length 1", 0, Telegram.of(24, 1).restriction(1, 5, 1, 9));
        answer("length 32767", 0, Telegram.of(24, 1).restriction(1, 5, 32767, 9));
        CHECK.sentence("one that is not as said here is fault 6 (and no other one)");
        answer("the least of each", 0, Telegram.of(3, 1).marks(0, 0, 0).authority(0, 0, 0).grades(0, 0)
                .profile(0, 0).restriction(0, 0, 1, 0).ended(0));
        answer("the greatest of each", 0, Telegram.of(3, 1).marks(32767, 255, 63).authority(32767, 1023, 1)
                .grades(32767, 63).profile(32767, 127).restriction(255, 32767, 32767, 127).ended(255));
    }

    /** The message ends behind the wrong number, or a bit before its end. */
    private static void asSoonAsItHasBeenRead() {
        CHECK.sentence("one that is not as said here is fault 6, as soon as it has been read");
        int[][] wrong = {
            {5, 2, 3, 4, 15, 1, 8, 0, 6, 4, 15},
            {15, 9, 15, 0, 10, 2, 2},
            {21, 2, 3, 4, 15, 1, 6, 4, 15},
            {27, 0, 3},
            {27, 2, 3, 4, 15, 1, 7, 4, 15},
            {65, 1, 8, 5, 15, 0, 15},
        };
        for (int[] packet : wrong) {
            answer("packet " + packet[0] + " ends behind the wrong number", 6, withPacket(packet, 0));
            Telegram cut = withPacket(packet, -1);
            answer("packet " + packet[0] + " ends 1 bit before that", 2, cut.cutTo(cut.size() - 1));
        }
    }

    private static void whereSizeSays() {
        CHECK.sentence("and when they do not end where SIZE says: fault 5.");
        for (int[] packet : PACKETS) {
            int bits = numbersOf(packet).length();
            for (int off = -bits; off <= 24; off++) {
                // Grades behind it give bits for a SIZE that is too great; packet 21 itself is followed by 66.
                Telegram telegram = withPacket(packet, off);
                telegram = packet[0] == 21 ? telegram.ended(1) : telegram.grades();
                answer("packet " + packet[0] + " with SIZE off by " + off, off == 0 ? 0 : 5, telegram);
            }
        }
        answer("a bit behind the numbers of the last packet", 5, Telegram.of(24, 1).packet(66, 0, 1, 8, 0, 1));
    }

    private static void scales() {
        CHECK.sentence("All places and lengths in messages (not the OVERLAP and the accuracy) stand for 10 times"
                + " their number; limits stand for 5 times theirs, but at most MAX.");
        TrainGuard guard = fresh();
        CHECK.due("one of each", 0, Telegram.of(3, 1).authority(3, 7, 0).profile(2, 3).marks(4, 1, 7)
                .restriction(1, 6, 2, 1).to(guard));
        CHECK.due("END 3", 30, guard.display(2));
        CHECK.due("mark at 4", 40004, guard.marks(0));
        CHECK.due("before the step at 2", 600, guard.limit(19));
        CHECK.due("from the step at 2 on, limit 3", 15, guard.limit(20));
        CHECK.due("before the restriction at 6", 15, guard.limit(59));
        CHECK.due("the restriction at 6, limit 1", 5, guard.limit(60));
        CHECK.due("of length 2", 5, guard.limit(79));
        CHECK.due("behind it", 15, guard.limit(80));
        CHECK.due("PLACE 2", 0, Telegram.shorten(2, 2).to(guard));
        CHECK.due("END 2", 20, guard.display(2));
        Rides.highTo(guard, 33);
        CHECK.due("accuracy 7: HIGH 33 at place - accuracy", true, guard.mark(1));
        CHECK.due("LOW is place - accuracy", 33, guard.state(0));
        int[] numbers = {0, 1, 60, 118, 119, 120, 121, 127};
        int[] limits = {0, 5, 300, 590, 595, 600, 600, 600};
        for (int i = 0; i < numbers.length; i++) {
            TrainGuard step = fresh();
            Telegram.of(24, 1).profile(0, numbers[i]).to(step);
            CHECK.due("a step's limit " + numbers[i], limits[i], step.limit(0));
            TrainGuard restricted = Rides.full(20, 10, 0, 300, 0);
            Telegram.of(24, 1).restriction(1, 0, 1, numbers[i]).to(restricted);
            CHECK.due("a restriction's limit " + numbers[i], limits[i], restricted.limit(0));
            CHECK.due("as a ceiling", limits[i], restricted.display(3));
        }
    }

    private static Telegram ofSixHundredBits(int time) {
        return Telegram.of(3, time).authority(300, 1, 0).marks(1, 1, 0, 2, 2, 0, 3, 3, 0, 4, 4, 0)
                .grades(1, 0, 2, 0, 3, 0, 4, 0, 5, 0, 6, 0, 7, 0).profile(0, 20, 1, 21, 2, 22, 3, 23)
                .restriction(1, 9, 1, 1).ended(1);
    }

    private static void theLongest() {
        CHECK.sentence("false .. when .. there would be more than 600 bits (a message of 600 is read to its end)");
        Telegram longest = ofSixHundredBits(1);
        CHECK.due("its bits", 600, longest.size());
        TrainGuard guard = fresh();
        longest.bitsTo(guard);
        CHECK.due("there are 600 bits", 600, guard.state(6));
        CHECK.due("one more", false, guard.bits(0, 1));
        CHECK.due("it is taken", 0, guard.message());
        CHECK.due("its authority", 3000, guard.display(2));
        CHECK.due("its last mark", 40016, guard.marks(3));
        CHECK.due("its last step", 115, guard.limit(30));
        CHECK.due("its restriction", 5, guard.limit(99));
        CHECK.due("LENGTH 599", 2, ofSixHundredBits(2).lengthOffBy(-1).to(guard));
        CHECK.due("LENGTH 601", 2, ofSixHundredBits(2).lengthOffBy(1).to(guard));
        CHECK.due("a bit less", 2, ofSixHundredBits(2).cutTo(599).to(guard));
        CHECK.due("once more", 0, ofSixHundredBits(2).to(guard));
    }
}
