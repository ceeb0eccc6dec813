/** The boundaries in what happens to the train: to trip, a mark, a cycle and what the driver does. */
public final class EdgesOfRideTest {
    private static final Check CHECK = new Check("EdgesOfRideTest");

    public static void main(String[] args) {
        atFirst();
        tripDeletes();
        pulsesInRange();
        uncertainty();
        alreadyFailed();
        missedMark();
        lowAboveEnd();
        lowAboveStaffEnd();
        emergencyBrake();
        serviceBrake();
        askedBrake();
        command();
        noSuchMark();
        firstSuchMark();
        marksBefore();
        highBelowMark();
        lowAboveMark();
        narrowing();
        driverDeeds();
        driverAtRest();
        startWith();
        CHECK.end();
    }

    private static void atFirst() {
        CHECK.sentence("At first there is none of all these.");
        TrainGuard guard = new TrainGuard(20, 10, 100);
        CHECK.due("no authority", -1, guard.display(2));
        CHECK.due("no limit", 600, guard.limit(0));
        CHECK.due("no mark", -1, guard.marks(0));
        CHECK.due("nothing is asked", 0, guard.state(4));
        CHECK.due("six restrictions have room", 0, sixRestrictions(guard));
        CHECK.due("no profile: STAFF", true, guard.driver(0) && guard.mode() == 1);
    }

    private static int sixRestrictions(TrainGuard guard) {
        int faults = 0;
        for (int i = 0; i < 6; i++) {
            faults += Telegram.of(24, i).restriction(i, 50, 1, 10).to(guard);
        }
        return faults;
    }

    /** In FULL or ON SIGHT (asked), END 3000, with a step, a fall, two marks and a restriction. */
    private static TrainGuard rich(int code) {
        return Rides.started(new TrainGuard(20, 10, 0), Telegram.of(3, 0).authority(300, 9, code).profile(0, 40)
                .grades(0, 9).marks(5, 1, 0, 200, 2, 0).restriction(1, 20, 1, 10));
    }

    private static void tripDeletes() {
        CHECK.sentence("TO TRIP: the mode is TRIP; authority, profile, grades and marks are deleted (restrictions"
                + " stay), and nothing is ASKED any more.");
        for (int code = 0; code <= 1; code++) {
            for (int way = 0; way < 4; way++) {
                TrainGuard guard = rich(code);
                if (way == 0) {
                    Telegram.stop(1).to(guard);
                } else if (way == 1) {
                    guard.mark(2);
                } else if (way == 2) {
                    guard.cycle(100);
                } else {
                    Telegram.of(3, 1).authority(1, 0, code).marks().to(guard);
                    guard.cycle(40);
                }
                isBare("authority " + code + ", way " + way, guard);
            }
        }
        TrainGuard staff = Rides.staff();
        Telegram.of(24, 0).profile(0, 40).grades(0, 9).marks(5, 1, 0).restriction(1, 20, 1, 10).to(staff);
        Telegram.of(24, 1).marks(5, 1, 0).to(staff);
        Rides.lowTo(staff, 2, 2990);
        staff.cycle(40);
        isBare("STAFF END", staff);
    }

    private static void isBare(String what, TrainGuard guard) {
        CHECK.due(what + ": TRIP", 4, guard.mode());
        CHECK.due(what + ": no authority", -1, guard.display(2));
        CHECK.due(what + ": no profile", 600, guard.limit(0));
        CHECK.due(what + ": the restriction stays", 50, guard.limit(200));
        CHECK.due(what + ": no marks", -1, guard.marks(0));
        CHECK.due(what + ": nothing is asked", 0, guard.state(4));
        guard.cycle(0);
        guard.driver(2);
        Telegram.of(3, 9).authority(32767, 0, 0).ended(1).to(guard);
        guard.driver(0);
        CHECK.due(what + ": no profile, so STAFF", 1, guard.mode());
        Telegram.of(3, 10).authority(32767, 0, 0).profile(0, 127).to(guard);
        Telegram.of(3, 11).authority((guard.state(1) + 1009) / 10, 1023, 0).to(guard);
        int way = guard.display(2);
        int allowed = 0;
        for (int v = 0; v <= 600; v++) {
            allowed = 7 * v + 12 + PlainModel.brakingWay(v + 6, 0, 10) <= way ? v : allowed;
        }
        CHECK.due(what + ": no grades", allowed, guard.display(0));
    }

    private static void pulsesInRange() {
        CHECK.sentence("(1) If the mode is FAILED already, or pulses is not 0 .. 500, the mode is FAILED,"
                + " and (2), (3) are left out.");
        int[] pulses = {Integer.MIN_VALUE, -500, -1, 0, 1, 499, 500, 501, 502, 756, Integer.MAX_VALUE};
        for (int mode = 0; mode <= 5; mode++) {
            for (int count : pulses) {
                TrainGuard guard = Rides.inMode(mode);
                boolean wrong = count < 0 || count > 500;
                int answer = guard.cycle(count);
                CHECK.due("mode " + mode + ", cycle(" + count + ")", wrong, guard.mode() == 6);
                CHECK.due("the cycle's number", 1, guard.state(5));
                if (wrong) {
                    CHECK.due("its command", 2, answer);
                    CHECK.due("no LOW", 0, guard.state(0));
                    CHECK.due("no HIGH", 0, guard.state(1));
                    CHECK.due("no TOP", 0, guard.state(2));
                }
            }
        }
    }

    private static void uncertainty() {
        CHECK.sentence("(2) With e = 0 for no pulses, else 1 + pulses / 16: HIGH grows by pulses + e, LOW by"
                + " pulses - e, TOP is pulses + e.");
        for (int pulses = 0; pulses <= 500; pulses++) {
            int e = pulses == 0 ? 0 : 1 + (pulses - pulses % 16) / 16;
            TrainGuard guard = new TrainGuard(20, 10, 100);
            guard.cycle(40);
            guard.cycle(pulses);
            CHECK.due(pulses + " pulses, LOW", 37 + pulses - e, guard.state(0));
            CHECK.due(pulses + " pulses, HIGH", 43 + pulses + e, guard.state(1));
            CHECK.due(pulses + " pulses, TOP", pulses + e, guard.state(2));
        }
        int[] pulses = {0, 1, 15, 16, 31, 32, 47, 48, 495, 496, 500};
        int[] tops = {0, 2, 16, 18, 33, 35, 50, 52, 526, 528, 532};
        for (int i = 0; i < pulses.length; i++) {
            TrainGuard guard = new TrainGuard(20, 10, 100);
            guard.cycle(pulses[i]);
            CHECK.due(pulses[i] + " pulses, TOP", tops[i], guard.state(2));
        }
    }

    private static void alreadyFailed() {
        CHECK.sentence("If the mode is FAILED already .. (2), (3) are left out.");
        TrainGuard guard = Rides.failed();
        int[] pulses = {0, 1, 500, 501};
        for (int count : pulses) {
            CHECK.due("cycle(" + count + ")", 2, guard.cycle(count));
            CHECK.due("FAILED", 6, guard.mode());
            CHECK.due("HIGH", 0, guard.state(1));
            CHECK.due("TOP", 0, guard.state(2));
        }
        CHECK.due("the cycle's number", 5, guard.state(5));
        CHECK.dueRecord("no more notes", guard, 10106, 10202);
    }

    private static TrainGuard guided(int code, Telegram telegram) {
        TrainGuard guard = Rides.started(new TrainGuard(20, 10, 0),
                Telegram.of(3, 0).authority(300, 0, code).profile(0, 127));
        CHECK.due("the message", 0, telegram.to(guard));
        return guard;
    }

    /** After 40 pulses LOW is 37. */
    private static void missedMark() {
        CHECK.sentence("(3) In FULL and ON SIGHT: if a mark that is not passed has its place + accuracy below LOW,"
                + " all such are passed (no note 5), note 6, and the unit trips");
        for (int code = 0; code <= 1; code++) {
            for (int accuracy = 5; accuracy <= 8; accuracy++) {
                TrainGuard guard = guided(code, Telegram.of(24, 1).marks(3, 1, accuracy));
                guard.cycle(40);
                boolean missed = 30 + accuracy < 37;
                CHECK.due("30 + " + accuracy + " with LOW 37", missed ? 4 : 2 + code, guard.mode());
                CHECK.due("the mark", missed ? -1 : 30004, guard.marks(0));
            }
            TrainGuard two = guided(code, Telegram.of(24, 1).marks(1, 1, 0, 2, 2, 0, 9, 3, 0));
            two.cycle(40);
            CHECK.dueNotes("two at once, one note", two, 324, 10600, 10104, 10202);
            TrainGuard second = guided(code, Telegram.of(24, 1).marks(2, 1, 63, 3, 2, 0));
            second.cycle(40);
            CHECK.due("the second alone", 4, second.mode());
            TrainGuard passed = guided(code, Telegram.of(24, 1).marks(0, 1, 0));
            passed.mark(1);
            passed.cycle(40);
            CHECK.due("a passed one", 2 + code, passed.mode());
        }
        int[] others = {0, 1, 5};
        for (int mode : others) {
            TrainGuard guard = Rides.inMode(mode);
            Telegram.of(24, 5).marks(3, 1, 0).to(guard);
            guard.cycle(40);
            CHECK.due("in mode " + mode, mode, guard.mode());
            CHECK.due("it is not passed", 30004, guard.marks(0));
        }
    }

    private static void lowAboveEnd() {
        CHECK.sentence("otherwise, if LOW is above END, it trips.");
        for (int code = 0; code <= 1; code++) {
            for (int low = 29; low <= 31; low++) {
                TrainGuard guard = guided(code, Telegram.of(3, 1).authority(3, 1000, code));
                Rides.creep(guard, low);
                CHECK.due("END 30, LOW " + low, low > 30 ? 4 : 2 + code, guard.mode());
            }
            TrainGuard both = guided(code, Telegram.of(3, 1).authority(3, 0, code).marks(2, 1, 0));
            both.cycle(40);
            CHECK.dueNotes("a missed mark comes first", both, 303, 10600, 10104, 10202);
            TrainGuard standing = guided(code, Telegram.of(24, 1));
            Rides.creep(standing, 31);
            CHECK.due("END is taken back", 0, Telegram.of(3, 2).authority(3, 0, code).to(standing));
            CHECK.due("no trip before a cycle", 2 + code, standing.mode());
            standing.cycle(0);
            CHECK.due("a cycle at rest", 4, standing.mode());
        }
    }

    private static void lowAboveStaffEnd() {
        CHECK.sentence("In STAFF: if LOW is above the STAFF END, it trips. (the STAFF END is HIGH + 3000)");
        int[] starts = {0, 2, 35};
        for (int start : starts) {
            for (int more = -1; more <= 1; more++) {
                TrainGuard guard = new TrainGuard(20, 10, 0);
                Rides.highTo(guard, start);
                guard.cycle(0);
                guard.driver(0);
                Rides.lowTo(guard, 1, start + 3000 + more);
                CHECK.due("a mark does not trip it", 1, guard.mode());
                guard.cycle(0);
                CHECK.due("STAFF END " + (start + 3000) + ", LOW " + (start + 3000 + more), more > 0 ? 4 : 1,
                        guard.mode());
            }
        }
        int[] others = {0, 5};
        for (int mode : others) {
            TrainGuard guard = Rides.inMode(mode);
            for (int i = 0; i < 8; i++) {
                guard.cycle(500);
            }
            CHECK.due("LOW 3744 in mode " + mode, mode, guard.mode());
        }
    }

    /** In STAFF TOP 80, 81, 84, 86 and 89 are the grades 0 to 4; at rest the grade is 0. */
    private static int pulsesOfGrade(int grade) {
        return Rides.pulsesFor(new int[] {80, 81, 84, 86, 89}[grade]);
    }

    private static void emergencyBrake() {
        CHECK.sentence("(4) The emergency brake is on if the grade of danger is 4; when it was on before it goes off"
                + " only if pulses is 0 and the grade is below 4.");
        for (int grade = 0; grade <= 4; grade++) {
            TrainGuard fresh = Rides.staff();
            CHECK.due("grade " + grade, grade == 4 ? 2 : grade == 3 ? 1 : 0, fresh.cycle(pulsesOfGrade(grade)));
            TrainGuard braked = Rides.staff();
            braked.cycle(pulsesOfGrade(4));
            CHECK.due("on before, grade " + grade, 2, braked.cycle(pulsesOfGrade(grade)));
            CHECK.due("one pulse", 2, braked.cycle(1));
            CHECK.due("no pulses", 0, braked.cycle(0));
            CHECK.due("off before", 0, braked.cycle(pulsesOfGrade(0)));
        }
        TrainGuard close = Rides.full(4, 4, 0, 0, 5);
        CHECK.due("grade 4 at rest: 6 of 5", 2, close.cycle(0));
        CHECK.due("it stays", 2, close.cycle(0));
        Telegram.of(3, 1).authority(0, 6, 0).to(close);
        CHECK.due("grade 3 at rest: 6 of 6", 1, close.cycle(0));
    }

    private static void serviceBrake() {
        CHECK.sentence("The service brake is on if the grade is 3 or 4; when it was on before it goes off only if the"
                + " grade is 0, or pulses is 0 and the grade is below 3.");
        for (int grade = 0; grade <= 4; grade++) {
            TrainGuard braked = Rides.staff();
            CHECK.due("grade 3", 1, braked.cycle(pulsesOfGrade(3)));
            CHECK.due("on before, grade " + grade, grade == 0 ? 0 : grade == 4 ? 2 : 1,
                    braked.cycle(pulsesOfGrade(grade)));
            TrainGuard rested = Rides.staff();
            rested.cycle(pulsesOfGrade(3));
            rested.cycle(pulsesOfGrade(grade));
            CHECK.due("grade " + grade + ", then at rest", 0, rested.cycle(0));
            CHECK.due("off before, grade 2", 0, rested.cycle(pulsesOfGrade(2)));
        }
        // END 30 leaves 12 + 3 at rest up to HIGH 15; the grade is 3 beyond it.
        TrainGuard close = Rides.full(40, 3, 0, 3, 0);
        Rides.highTo(close, 16);
        CHECK.due("grade 3 at rest", 1, close.cycle(0));
        CHECK.due("it stays", 1, close.cycle(0));
        TrainGuard both = Rides.full(4, 4, 0, 0, 5);
        both.cycle(0);
        Telegram.of(3, 1).authority(0, 6, 0).to(both);
        CHECK.due("the service brake was on under the other one", 1, both.cycle(0));
        Telegram.of(3, 2).authority(2, 0, 0).to(both);
        CHECK.due("grade 0", 0, both.cycle(0));
    }

    private static void askedBrake() {
        CHECK.sentence("If ON SIGHT is ASKED, the cycles since then are counted (this one is the first if it was asked"
                + " before this call); from the third on the ASKED brake is on.");
        for (int cycles = 0; cycles <= 5; cycles++) {
            TrainGuard guard = Rides.onSight(1000);
            for (int i = 1; i <= cycles; i++) {
                CHECK.due("cycle " + i, i < 3 ? 0 : 1, guard.cycle(i % 2));
            }
            CHECK.due("ACKNOWLEDGE after " + cycles, true, guard.driver(1));
            CHECK.due("the next cycle", 0, guard.cycle(1));
            CHECK.due("and the next", 0, guard.cycle(1));
            CHECK.due("and the next", 0, guard.cycle(1));
        }
        TrainGuard late = Rides.full(20, 10, 0, 1000, 0);
        late.cycle(5);
        late.cycle(5);
        late.cycle(5);
        Telegram.of(3, 1).authority(1000, 0, 1).to(late);
        CHECK.due("first since it was asked", 0, late.cycle(5));
        Telegram.of(3, 2).authority(1000, 0, 1).to(late);
        CHECK.due("second, not asked anew", 0, late.cycle(5));
        CHECK.due("third", 1, late.cycle(5));
        Telegram.of(3, 3).authority(1000, 0, 0).to(late);
        CHECK.due("FULL", 0, late.cycle(5));
        Telegram.of(3, 4).authority(1000, 0, 1).to(late);
        CHECK.due("first since it was asked anew", 0, late.cycle(5));
        CHECK.due("second", 0, late.cycle(5));
        CHECK.due("third", 1, late.cycle(5));
    }

    private static void command() {
        CHECK.sentence("(5) The command is 2 if the emergency brake is on, else 1 if the service brake or the asked"
                + " brake is on, else 0.");
        TrainGuard guard = Rides.onSight(1000);
        CHECK.due("none", 0, guard.cycle(5));
        CHECK.due("the service brake alone", 1, guard.cycle(Rides.pulsesFor(66)));
        CHECK.due("the service brake and the asked brake", 1, guard.cycle(Rides.pulsesFor(66)));
        CHECK.due("the asked brake alone", 1, guard.cycle(5));
        CHECK.due("all", 2, guard.cycle(Rides.pulsesFor(69)));
        CHECK.due("emergency and asked brake", 2, guard.cycle(5));
        guard.driver(1);
        CHECK.due("the emergency brake alone", 2, guard.cycle(5));
        CHECK.due("none", 0, guard.cycle(0));
        CHECK.due("the answer is the state", 0, guard.state(3));
    }

    private static void noSuchMark() {
        CHECK.sentence("Answers false, changing nothing, when no mark that was not passed has this number");
        TrainGuard guard = guided(0, Telegram.of(24, 1).marks(0, 7, 20, 1, 255, 20, 9, 0, 0));
        int[] wrong = {Integer.MIN_VALUE, -1, 1, 6, 8, 254, 256, 263, 511, Integer.MAX_VALUE};
        String before = Check.picture(guard);
        for (int number : wrong) {
            CHECK.due("mark(" + number + ")", false, guard.mark(number));
        }
        CHECK.due("nothing changed", true, before.equals(Check.picture(guard)));
        CHECK.due("mark(7)", true, guard.mark(7));
        CHECK.due("mark(7) again", false, guard.mark(7));
        CHECK.due("mark(255)", true, guard.mark(255));
        CHECK.due("mark(255) again", false, guard.mark(255));
        CHECK.due("mark(0), too far ahead", true, guard.mark(0));
        CHECK.due("its trip", 4, guard.mode());
        CHECK.due("mark(0) after it", false, guard.mark(0));
        TrainGuard fewer = guided(0, Telegram.of(24, 1).marks(0, 7, 20, 1, 8, 20, 2, 9, 20));
        CHECK.due("one mark in place of three", 0, Telegram.of(24, 2).marks(0, 7, 20).to(fewer));
        CHECK.due("mark(8), which was the second", false, fewer.mark(8));
        CHECK.due("mark(9), which was the third", false, fewer.mark(9));
        CHECK.due("mark(7)", true, fewer.mark(7));
    }

    private static void firstSuchMark() {
        CHECK.sentence("(the first such mark is meant)");
        TrainGuard guard = Rides.staff();
        Telegram.of(24, 1).marks(0, 7, 9, 1, 7, 19, 2, 7, 29).to(guard);
        for (int i = 1; i <= 3; i++) {
            CHECK.due("mark(7), time " + i, true, guard.mark(7));
            for (int k = 0; k < 3; k++) {
                CHECK.due("mark " + k, 10000 * k + 28 + (k < i ? 1 : 0), guard.marks(k));
            }
        }
        CHECK.due("mark(7), time 4", false, guard.mark(7));
        CHECK.dueRecord("no fault", guard, 700, 101, 324, 507, 507, 507);
    }

    private static void marksBefore() {
        CHECK.sentence("all marks up to it are passed (note 5 for it alone); if one of those before it was not passed"
                + " .. : note 6, and in FULL and ON SIGHT the unit trips");
        for (int mode = 0; mode <= 5; mode++) {
            if (mode == 4) {
                continue;
            }
            boolean trips = mode == 2 || mode == 3;
            TrainGuard jumped = Rides.inMode(mode);
            Telegram.of(24, 5).marks(0, 1, 9, 1, 2, 19, 2, 3, 29).to(jumped);
            CHECK.due("the second before the first", true, jumped.mark(2));
            CHECK.due("mode " + mode, trips ? 4 : mode, jumped.mode());
            CHECK.due("the first", trips ? -1 : 5, jumped.marks(0));
            CHECK.due("the second", trips ? -1 : 10009, jumped.marks(1));
            CHECK.due("the third", trips ? -1 : 20012, jumped.marks(2));
            CHECK.dueNotes("its notes", jumped, jumpedNotes(trips));
            TrainGuard inOrder = Rides.inMode(mode);
            Telegram.of(24, 5).marks(0, 1, 9, 1, 2, 19, 2, 3, 29).to(inOrder);
            CHECK.due("one after the other", true, inOrder.mark(1) && inOrder.mark(2) && inOrder.mark(3));
            CHECK.due("mode " + mode, mode, inOrder.mode());
            CHECK.dueNotes("its notes", inOrder, 324, 501, 502, 503);
        }
    }

    private static int[] jumpedNotes(boolean trips) {
        return trips ? new int[] {324, 502, 600, 104} : new int[] {324, 502, 600};
    }

    /** After 40 pulses LOW is 37 and HIGH is 43. */
    private static void highBelowMark() {
        CHECK.sentence("or HIGH is below its place - accuracy");
        for (int mode = 0; mode <= 5; mode++) {
            for (int accuracy = 6; mode != 4 && accuracy <= 8; accuracy++) {
                TrainGuard guard = Rides.inMode(mode);
                Telegram.of(24, 5).marks(5, 1, accuracy).to(guard);
                guard.cycle(40);
                boolean fault = 43 < 50 - accuracy;
                CHECK.due("50 - " + accuracy + " with HIGH 43", true, guard.mark(1));
                CHECK.due("a fault in mode " + mode, fault && (mode == 2 || mode == 3) ? 4 : mode, guard.mode());
                CHECK.due("LOW", fault ? 37 : 50 - accuracy, guard.state(0));
                CHECK.due("HIGH", 43, guard.state(1));
            }
        }
    }

    /** In FULL and ON SIGHT a mark behind the train is met only when it was so before the mode was entered. */
    private static void lowAboveMark() {
        CHECK.sentence("or LOW is above its place + accuracy");
        for (int mode = 0; mode <= 5; mode++) {
            for (int accuracy = 6; mode != 4 && accuracy <= 8; accuracy++) {
                boolean guided = mode == 2 || mode == 3;
                TrainGuard guard = guided ? Rides.staff() : Rides.inMode(mode);
                Telegram.of(24, 5).marks(3, 1, accuracy).to(guard);
                guard.cycle(40);
                if (guided) {
                    Telegram.of(3, 6).authority(300, 0, mode - 2).profile(0, 127).to(guard);
                }
                CHECK.due("the mode", mode, guard.mode());
                boolean fault = 37 > 30 + accuracy;
                CHECK.due("30 + " + accuracy + " with LOW 37", true, guard.mark(1));
                CHECK.due("a fault in mode " + mode, fault && guided ? 4 : mode, guard.mode());
                CHECK.due("LOW", 37, guard.state(0));
                CHECK.due("HIGH", fault ? 43 : 30 + accuracy, guard.state(1));
            }
        }
    }

    private static void narrowing() {
        CHECK.sentence("otherwise LOW is raised to place - accuracy if it is less, and HIGH lowered to place +"
                + " accuracy if it is more.");
        for (int accuracy = 0; accuracy <= 5; accuracy++) {
            TrainGuard guard = Rides.full(20, 10, 0, 300, 0);
            Telegram.of(24, 1).marks(4, 1, accuracy).to(guard);
            guard.cycle(40);
            CHECK.due("mark at 40, accuracy " + accuracy, true, guard.mark(1));
            CHECK.due("LOW", Math.max(37, 40 - accuracy), guard.state(0));
            CHECK.due("HIGH", Math.min(43, 40 + accuracy), guard.state(1));
            CHECK.due("TOP", 43, guard.state(2));
            CHECK.due("FULL", 2, guard.mode());
        }
        TrainGuard wide = Rides.full(20, 10, 0, 300, 0);
        Telegram.of(24, 1).marks(0, 1, 63).to(wide);
        CHECK.due("place - accuracy below 0", true, wide.mark(1));
        CHECK.due("LOW stays", 0, wide.state(0));
        CHECK.due("HIGH stays", 0, wide.state(1));
    }

    private static void driverDeeds() {
        CHECK.sentence("Answers true; false, changing nothing, when what is none of these or it is not as said.");
        int[] deeds = {Integer.MIN_VALUE, -1, 0, 1, 2, 3, 4, 256, Integer.MAX_VALUE};
        for (int mode = 0; mode <= 6; mode++) {
            for (int deed : deeds) {
                TrainGuard guard = Rides.inMode(mode);
                boolean heard = deed == 0 && (mode == 0 || mode == 5) || deed == 1 && mode == 3
                        || deed == 2 && mode == 4;
                String before = Check.picture(guard);
                CHECK.due("mode " + mode + ", driver(" + deed + ")", heard, guard.driver(deed));
                CHECK.due("nothing changed", !heard, before.equals(Check.picture(guard)));
            }
        }
    }

    private static void driverAtRest() {
        CHECK.sentence("0 START: in STAND BY and POST TRIP, when TOP is 0 .. 2 RELEASE: in TRIP, when TOP is 0");
        for (int pulses = 0; pulses <= 2; pulses++) {
            int[] modes = {0, 4, 5};
            for (int mode : modes) {
                TrainGuard guard = Rides.inMode(mode);
                guard.cycle(pulses);
                int deed = mode == 4 ? 2 : 0;
                CHECK.due("mode " + mode + " after " + pulses, pulses == 0, guard.driver(deed));
                CHECK.due("the mode then", pulses != 0 ? mode : mode == 4 ? 5 : 1, guard.mode());
                guard.cycle(0);
                CHECK.due("after a cycle at rest", mode == 4 || pulses != 0, guard.driver(pulses == 0 ? 0 : deed));
            }
        }
        CHECK.sentence("1 ACKNOWLEDGE: when ON SIGHT is ASKED: it is asked no more.");
        TrainGuard onSight = Rides.onSight(1000);
        onSight.cycle(40);
        CHECK.due("on the way", true, onSight.driver(1));
        CHECK.due("asked no more", 0, onSight.state(4));
        CHECK.due("again", false, onSight.driver(1));
    }

    private static void startWith() {
        CHECK.sentence("with an authority and a profile the unit ENTERS the mode of the authority; else the mode is"
                + " STAFF");
        int[] modes = {0, 5};
        for (int mode : modes) {
            for (int code = 0; code <= 1; code++) {
                TrainGuard both = Rides.inMode(mode);
                Telegram.of(3, 5).authority(300, 0, code).profile(0, 9).to(both);
                CHECK.due("authority and profile", true, both.driver(0) && both.mode() == 2 + code);
                CHECK.due("ASKED", code, both.state(4));
                TrainGuard authority = Rides.inMode(mode);
                Telegram.of(3, 5).authority(300, 0, code).to(authority);
                CHECK.due("an authority alone", true, authority.driver(0) && authority.mode() == 1);
                CHECK.due("nothing is asked", 0, authority.state(4));
            }
            TrainGuard profile = Rides.inMode(mode);
            Telegram.of(24, 5).profile(0, 9).to(profile);
            CHECK.due("a profile alone", true, profile.driver(0) && profile.mode() == 1);
            TrainGuard none = Rides.inMode(mode);
            CHECK.due("none of both", true, none.driver(0) && none.mode() == 1);
        }
    }
}
