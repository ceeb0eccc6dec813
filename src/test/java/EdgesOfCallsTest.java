import java.util.Random;

/** The boundaries of arguments, calls that are refused or only ask, and the longest life of an object. */
public final class EdgesOfCallsTest {
    private static final Check CHECK = new Check("EdgesOfCallsTest");
    private static final int[] EXTREMES = {Integer.MIN_VALUE, Integer.MIN_VALUE + 1, -65536, -601, -1, 601, 65536,
        Integer.MAX_VALUE - 1, Integer.MAX_VALUE};

    public static void main(String[] args) {
        newObject();
        bitCounts();
        sixHundredBits();
        lowestBits();
        noneAfterMessage();
        states();
        displays();
        wayToTheEnd();
        limits();
        ways();
        marks();
        notes();
        fiveHundredTwelveCalls();
        refusedCallsChangeNothing();
        CHECK.end();
    }

    private static void newObject() {
        CHECK.sentence("emergency is E: below 4 counts as 4, above 40 as 40; service is S: below 2 counts as 2, above E"
                + " as E; length: below 0 as 0, above 4000 as 4000.");
        int[] emergencies = {Integer.MIN_VALUE, -1, 0, 3, 4, 5, 39, 40, 41, Integer.MAX_VALUE};
        int[] services = {Integer.MIN_VALUE, -1, 0, 1, 2, 3, 4, 5, 38, 39, 40, 41, Integer.MAX_VALUE};
        for (int emergency : emergencies) {
            int e = emergency < 4 ? 4 : emergency > 40 ? 40 : emergency;
            for (int service : services) {
                int s = service < 2 ? 2 : service > e ? e : service;
                for (int fall = 2; fall <= 37; fall += 35) {
                    CHECK.due("E of " + emergency + ", S of " + service + ", a fall of " + fall, allowed(e, s, fall),
                            seen(emergency, service, fall));
                }
            }
        }
        int[] lengths = {Integer.MIN_VALUE, -1, 0, 1, 3999, 4000, 4001, Integer.MAX_VALUE};
        int[] counts = {0, 0, 0, 1, 3999, 4000, 4000, 4000};
        for (int i = 0; i < lengths.length; i++) {
            for (int tail = 9; tail <= 10; tail++) {
                TrainGuard guard = Rides.started(new TrainGuard(20, 10, lengths[i]),
                        Telegram.of(3, 0).authority(32767, 0, 0).profile(0, 10, 1, 40));
                Rides.lowTo(guard, 1, tail + counts[i]);
                CHECK.due("length " + lengths[i] + ", LOW " + guard.state(0), tail == 9 ? 50 : 200, guard.display(3));
            }
        }
    }

    /** END 3000 binds the service curve; a fall behind it, before the SUPERVISED place of 4023, the emergency curve. */
    private static int allowed(int e, int s, int fall) {
        int allowed = 0;
        for (int v = 0; v <= 600; v++) {
            int byService = 7 * v + 12 + PlainModel.brakingWay(v + 6, 0, s);
            int byEmergency = 2 * v + 6 + PlainModel.brakingWay(v + 4, 0, Math.max(1, e - fall));
            if (byService <= 3000 && byEmergency <= 4023) {
                allowed = v;
            }
        }
        return allowed;
    }

    private static int seen(int emergency, int service, int fall) {
        return Rides.started(new TrainGuard(emergency, service, 0), Telegram.of(3, 0).authority(300, 1023, 0)
                .profile(0, 127).grades(301, fall)).display(0);
    }

    private static void bitCounts() {
        CHECK.sentence("false, changing nothing, when count is not 1 .. 30");
        int[] counts = {Integer.MIN_VALUE, -30, -1, 0, 1, 2, 29, 30, 31, 32, 33, 600, Integer.MAX_VALUE};
        for (int count : counts) {
            TrainGuard guard = new TrainGuard(20, 10, 0);
            guard.bits(5, 3);
            boolean fits = count >= 1 && count <= 30;
            CHECK.due("bits(-1, " + count + ")", fits, guard.bits(-1, count));
            CHECK.due("bits there", 3 + (fits ? count : 0), guard.state(6));
        }
    }

    private static void sixHundredBits() {
        CHECK.sentence("or there would be more than 600 bits.");
        for (int there = 570; there <= 600; there++) {
            TrainGuard guard = new TrainGuard(20, 10, 0);
            for (int left = there; left > 0; left -= 30) {
                guard.bits(-1, Math.min(30, left));
            }
            CHECK.due("bits there", there, guard.state(6));
            int room = 600 - there;
            CHECK.due((room + 1) + " behind " + there, false, guard.bits(-1, room + 1));
            CHECK.due("bits there", there, guard.state(6));
            if (room > 0) {
                CHECK.due(room + " behind " + there, true, guard.bits(-1, room));
            }
            CHECK.due("bits there", 600, guard.state(6));
            CHECK.due("1 behind 600", false, guard.bits(0, 1));
            CHECK.due("30 behind 600", false, guard.bits(0, 30));
        }
    }

    private static void lowestBits() {
        CHECK.sentence("The count lowest bits of value, the highest of them first, come behind the bits that there"
                + " are");
        for (int above = -1; above <= 1; above++) {
            TrainGuard guard = new TrainGuard(20, 10, 0);
            // Kind 16, 34 bits, TIME 65535: 18 and 16 bits, with all or none of the higher bits set.
            CHECK.due("18 bits", true, guard.bits(above << 18 | 16 << 10 | 34, 18));
            CHECK.due("16 bits", true, guard.bits(above << 16 | 65535, 16));
            CHECK.due("the message", 0, guard.message());
            CHECK.due("its TIME is the greatest", 3, Telegram.stop(65535).to(guard));
        }
        String bits = Telegram.stop(1).bits();
        for (int first = 4; first <= 30; first++) {
            TrainGuard guard = new TrainGuard(20, 10, 0);
            guard.bits(Integer.parseInt(bits.substring(0, first), 2), first);
            guard.bits(Integer.parseInt(bits.substring(first), 2), 34 - first);
            CHECK.due(first + " bits and " + (34 - first), 0, guard.message());
        }
    }

    private static void noneAfterMessage() {
        CHECK.sentence("there are none after that, whatever is answered. Answers 0 when it was taken, else its fault"
                + " (2 without any bits).");
        TrainGuard guard = new TrainGuard(20, 10, 0);
        CHECK.due("without bits", 2, guard.message());
        CHECK.dueRecord("its note", guard, 402);
        guard.bits(0, 1);
        CHECK.due("with 1 bit", 2, guard.message());
        CHECK.due("none after it", 0, guard.state(6));
        guard.bits(1, 8);
        CHECK.due("with 8 bits", 1, guard.message());
        CHECK.due("none after it", 0, guard.state(6));
        CHECK.due("one that is taken", 0, Telegram.of(24, 0).to(guard));
        CHECK.due("none after it", 0, guard.state(6));
        CHECK.due("without bits again", 2, guard.message());
        CHECK.dueRecord("their notes", guard, 402, 402, 401, 324, 402);
    }

    private static void states() {
        CHECK.sentence("what 0: LOW .. 6: the number of bits that there are. NONE for another what.");
        TrainGuard guard = Rides.onSight(1000);
        guard.cycle(5);
        guard.cycle(5);
        guard.cycle(40);
        guard.bits(0, 11);
        int[] want = {-1, 45, 55, 43, 1, 1, 3, 11, -1};
        for (int what = -1; what <= 7; what++) {
            CHECK.due("state(" + what + ")", want[what + 1], guard.state(what));
        }
        for (int what : EXTREMES) {
            CHECK.due("state(" + what + ")", -1, guard.state(what));
        }
    }

    private static void displays() {
        CHECK.sentence("what 0: the ALLOWED speed .. 3: the ceiling .. NONE for another what.");
        int[][] want = {{0, 0, -1, 0}, {80, 0, -1, 80}, {183, 0, 3000, 600}, {60, 0, 3000, 60}, {0, 4, -1, -1},
            {0, 0, -1, 0}, {0, 4, -1, -1}};
        for (int mode = 0; mode <= 6; mode++) {
            TrainGuard guard = Rides.inMode(mode);
            CHECK.due("mode " + mode + ", display(-1)", -1, guard.display(-1));
            for (int what = 0; what <= 3; what++) {
                CHECK.due("mode " + mode + ", display(" + what + ")", want[mode][what], guard.display(what));
            }
            CHECK.due("mode " + mode + ", display(4)", -1, guard.display(4));
            for (int what : EXTREMES) {
                CHECK.due("mode " + mode + ", display(" + what + ")", -1, guard.display(what));
            }
        }
    }

    private static void wayToTheEnd() {
        CHECK.sentence("2: END - HIGH, but at least 0; NONE without an authority");
        int[] modes = {0, 1, 5};
        for (int mode : modes) {
            for (int high = 28; high <= 32; high++) {
                TrainGuard guard = Rides.inMode(mode);
                CHECK.due("without an authority", -1, guard.display(2));
                Telegram.of(3, 5).authority(3, 50, 0).to(guard);
                Rides.highTo(guard, high);
                CHECK.due("END 30, HIGH " + high, high < 30 ? 30 - high : 0, guard.display(2));
            }
        }
        TrainGuard failed = Rides.full(20, 10, 0, 300, 0);
        failed.cycle(501);
        CHECK.due("FAILED keeps its authority", 3000, failed.display(2));
        TrainGuard zero = new TrainGuard(20, 10, 0);
        Telegram.of(3, 5).authority(0, 0, 0).to(zero);
        CHECK.due("END 0 is an authority", 0, zero.display(2));
        Telegram.stop(6).to(zero);
        CHECK.due("none in TRIP", -1, zero.display(2));
    }

    private static void limits() {
        CHECK.sentence("MAX when there is none, or the place is below 0.");
        TrainGuard guard = new TrainGuard(20, 10, 0);
        Telegram.of(24, 1).profile(0, 3).restriction(1, 0, 1, 2).to(guard);
        int[] places = {Integer.MIN_VALUE, -10, -1, 0, 1, 9, 10, Integer.MAX_VALUE};
        int[] want = {600, 600, 600, 10, 10, 10, 15, 15};
        for (int i = 0; i < places.length; i++) {
            CHECK.due("limit(" + places[i] + ")", want[i], guard.limit(places[i]));
        }
    }

    private static void ways() {
        CHECK.sentence("NONE when w or u is not 0 .. MAX or b is not 1 .. 40.");
        TrainGuard guard = new TrainGuard(20, 10, 0);
        int[] speeds = {Integer.MIN_VALUE, -1, 0, 600, 601, Integer.MAX_VALUE};
        int[] decelerations = {Integer.MIN_VALUE, -1, 0, 1, 40, 41, Integer.MAX_VALUE};
        for (int w : speeds) {
            for (int u : speeds) {
                for (int b : decelerations) {
                    boolean fits = w >= 0 && w <= 600 && u >= 0 && u <= 600 && b >= 1 && b <= 40;
                    int way = w == 600 && u == 0 ? b == 1 ? 179700 : 4200 : 0;
                    CHECK.due("way(" + w + ", " + u + ", " + b + ")", fits ? way : -1, guard.way(w, u, b));
                }
            }
        }
    }

    private static void marks() {
        CHECK.sentence("Mark k (from 0, by rising places) .. as many as came in the latest packet; NONE when there is"
                + " none (all are gone when it trips).");
        for (int count = 0; count <= 7; count++) {
            TrainGuard guard = new TrainGuard(20, 10, 0);
            Telegram.of(24, 1).marks(0, 9, 0, 1, 9, 0, 2, 9, 0, 3, 9, 0, 4, 9, 0, 5, 9, 0, 6, 9, 0).to(guard);
            int[] numbers = new int[3 * count];
            for (int i = 0; i < count; i++) {
                numbers[3 * i] = 10 * i;
                numbers[3 * i + 1] = 255 - i;
            }
            Telegram.of(24, 2).marks(numbers).to(guard);
            for (int k = -1; k <= 8; k++) {
                int want = k < 0 || k >= count ? -1 : 100000 * k + 4 * (255 - k);
                CHECK.due(count + " marks, marks(" + k + ")", want, guard.marks(k));
            }
            for (int k : EXTREMES) {
                CHECK.due("marks(" + k + ")", -1, guard.marks(k));
            }
            Telegram.stop(3).to(guard);
            CHECK.due("gone", -1, guard.marks(0));
        }
        TrainGuard far = new TrainGuard(20, 10, 0);
        Telegram.of(24, 1).marks(32767, 255, 63).to(far);
        CHECK.due("the greatest", 327671020, far.marks(0));
    }

    private static void notes() {
        CHECK.sentence("Note k of the record, 0 the latest; NONE when there is none or k is not 0 .. 15.");
        for (int count = 0; count <= 20; count++) {
            TrainGuard guard = new TrainGuard(20, 10, 0);
            for (int i = 0; i < count; i++) {
                guard.message();
                guard.cycle(0);
            }
            CHECK.due("note(-1)", -1, guard.note(-1));
            for (int k = 0; k <= 15; k++) {
                CHECK.due(count + " notes, note(" + k + ")", k < count ? 10000 * (count - 1 - k) + 402 : -1,
                        guard.note(k));
            }
            CHECK.due("note(16)", -1, guard.note(16));
            for (int k : EXTREMES) {
                CHECK.due("note(" + k + ")", -1, guard.note(k));
            }
        }
    }

    private static void fiveHundredTwelveCalls() {
        CHECK.sentence("An object is used for at most 512 calls after it has been made");
        TrainGuard guard = new TrainGuard(20, 10, 0);
        for (int i = 0; i < 508; i++) {
            guard.cycle(500);
        }
        CHECK.due("the 509th: LOW", 508 * 468, guard.state(0));
        CHECK.due("the 510th: HIGH", 508 * 532, guard.state(1));
        CHECK.due("the 511th: the cycle", 508, guard.state(5));
        CHECK.due("the 512th: the latest note", 10202, guard.note(0));
        TrainGuard failing = new TrainGuard(20, 10, 0);
        for (int i = 0; i < 509; i++) {
            failing.cycle(0);
        }
        CHECK.due("the 510th", 2, failing.cycle(501));
        CHECK.due("the 511th", 5100106, failing.note(1));
        CHECK.due("the 512th", 5100202, failing.note(0));
    }

    /** Two objects in the same runs: on one of them calls come between that are refused, or only ask. */
    private static void refusedCallsChangeNothing() {
        CHECK.sentence("false, changing nothing");
        for (int run = 0; run < 300; run++) {
            Random dice = new Random(run);
            TrainGuard plain = new TrainGuard(12, 6, 50);
            TrainGuard disturbed = new TrainGuard(12, 6, 50);
            for (int i = 0; i < 24; i++) {
                disturb(disturbed, dice);
                int seed = dice.nextInt();
                CHECK.due("run " + run + ", step " + i, step(plain, new Random(seed), i),
                        step(disturbed, new Random(seed), i));
            }
            CHECK.due("run " + run + ", all that is seen", true,
                    Check.picture(plain).equals(Check.picture(disturbed)));
        }
    }

    private static int step(TrainGuard guard, Random dice, int time) {
        int ahead = guard.state(1) / 10;
        switch (dice.nextInt(8)) {
            case 0:
                return Telegram.of(3, time).authority(ahead + dice.nextInt(90), dice.nextInt(99), dice.nextInt(2))
                        .profile(0, 5 + dice.nextInt(30), ahead + 1, 5 + dice.nextInt(30))
                        .marks(ahead + 3, 1, 60, ahead + 6, 2, 60).to(guard);
            case 1:
                return Telegram.of(24, time).restriction(dice.nextInt(9), ahead + dice.nextInt(50), 9, 9).to(guard);
            case 2:
                return Telegram.shorten(time, ahead + dice.nextInt(60)).to(guard);
            case 3:
                return guard.driver(dice.nextInt(3)) ? 1 : 0;
            case 4:
                return guard.mark(1 + dice.nextInt(2)) ? 1 : 0;
            default:
                return guard.cycle(dice.nextInt(3) == 0 ? 0 : dice.nextInt(60));
        }
    }

    private static void disturb(TrainGuard guard, Random dice) {
        int extreme = EXTREMES[dice.nextInt(EXTREMES.length)];
        CHECK.due("bits(.., " + extreme + ")", false, guard.bits(dice.nextInt(), extreme));
        CHECK.due("bits(.., 0)", false, guard.bits(dice.nextInt(), 0));
        CHECK.due("bits(.., 31)", false, guard.bits(dice.nextInt(), 31));
        CHECK.due("mark(3)", false, guard.mark(3));
        CHECK.due("mark(" + extreme + ")", false, guard.mark(extreme));
        CHECK.due("driver(3)", false, guard.driver(3));
        CHECK.due("driver(" + extreme + ")", false, guard.driver(extreme));
        guard.display(dice.nextInt(5));
        guard.state(dice.nextInt(8));
        guard.limit(dice.nextInt(2000));
        guard.way(dice.nextInt(601), dice.nextInt(601), dice.nextInt(42));
        guard.marks(dice.nextInt(8));
        guard.note(dice.nextInt(17));
        guard.mode();
    }
}
