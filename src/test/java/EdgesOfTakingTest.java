/** The term MESSAGES: the faults that are met after reading, and what a message that is taken does. */
public final class EdgesOfTakingTest {
    private static final Check CHECK = new Check("EdgesOfTakingTest");

    public static void main(String[] args) {
        authorityInItsKind();
        failedAndTrip();
        withoutAuthority();
        placeAboveEnd();
        gradeOfTheNewEnd();
        gradeInOtherModes();
        noRoom();
        roomMadeInTheSameMessage();
        timeOfWhatIsTaken();
        inPlaceOfWhatThereWas();
        endThenRestriction();
        passedAtOnce();
        entering();
        asking();
        CHECK.end();
    }

    private static void due(String what, int want, TrainGuard guard, Telegram telegram) {
        int cycle = guard.state(5);
        String before = Check.scene(guard);
        CHECK.due(what, want, telegram.to(guard));
        if (want != 0) {
            CHECK.due(what + ": its note", 10000 * cycle + 400 + want, guard.note(0));
            CHECK.due(what + ": nothing else", true, before.equals(Check.scene(guard)));
        }
    }

    private static void authorityInItsKind() {
        CHECK.sentence("After reading: kind 3 without packet 15, or kind 24 with it: fault 8.");
        for (int mode = 0; mode <= 6; mode++) {
            int else9 = mode == 4 || mode == 6 ? 9 : 0;
            due("kind 3 with 15, mode " + mode, else9, Rides.inMode(mode), Telegram.of(3, 5).authority(300, 0, 0));
            due("kind 3 without 15, mode " + mode, 8, Rides.inMode(mode), Telegram.of(3, 5).profile(0, 9));
            due("kind 3 without any, mode " + mode, 8, Rides.inMode(mode), Telegram.of(3, 5));
            due("kind 24 with 15, mode " + mode, 8, Rides.inMode(mode), Telegram.of(24, 5).authority(300, 0, 0));
            due("kind 24 without 15, mode " + mode, else9, Rides.inMode(mode), Telegram.of(24, 5).profile(0, 9));
        }
        due("kind 3, 15 as the last packet", 0, Rides.staff(), Telegram.of(3, 5).grades().authority(300, 0, 0));
        due("kind 24, 15 as the last packet", 8, Rides.staff(), Telegram.of(24, 5).grades().authority(300, 0, 0));
    }

    private static void failedAndTrip() {
        CHECK.sentence("The mode is FAILED, or it is TRIP and the kind is not 16: fault 9.");
        for (int mode = 0; mode <= 6; mode++) {
            int ridden = mode == 2 || mode == 3 ? 0 : 10;
            due("kind 16, mode " + mode, mode == 6 ? 9 : 0, Rides.inMode(mode), Telegram.stop(5));
            due("kind 9, mode " + mode, mode == 4 || mode == 6 ? 9 : ridden, Rides.inMode(mode),
                    Telegram.shorten(5, 300));
        }
        TrainGuard guard = Rides.tripped();
        due("kind 24 in TRIP", 9, guard, Telegram.of(24, 5));
        guard.driver(2);
        due("kind 24 in POST TRIP", 0, guard, Telegram.of(24, 5));
    }

    private static void withoutAuthority() {
        CHECK.sentence("Kind 9 when there is no authority: fault 10.");
        TrainGuard standing = Rides.inMode(0);
        due("PLACE 0 at first", 10, standing, Telegram.shorten(1, 0));
        due("a profile is no authority", 0, standing, Telegram.of(24, 1).profile(0, 9));
        due("PLACE 0 with a profile", 10, standing, Telegram.shorten(2, 0));
        due("an authority to 0", 0, standing, Telegram.of(3, 2).authority(0, 0, 0));
        due("PLACE 0 with an authority to 0", 0, standing, Telegram.shorten(3, 0));
        due("a trip", 0, standing, Telegram.stop(4));
        standing.driver(2);
        due("PLACE 0 after a trip", 10, standing, Telegram.shorten(5, 0));
    }

    private static void placeAboveEnd() {
        CHECK.sentence("Kind 9 when the PLACE is above END .. : fault 11.");
        int[] modes = {0, 1, 2, 3, 5};
        for (int mode : modes) {
            TrainGuard guard = Rides.inMode(mode);
            int time = 5;
            if (mode != 2 && mode != 3) {
                due("an authority to 3000", 0, guard, Telegram.of(3, time++).authority(300, 0, 0));
            }
            due("PLACE 301, mode " + mode, 11, guard, Telegram.shorten(time, 301));
            due("PLACE 32767, mode " + mode, 11, guard, Telegram.shorten(time, 32767));
            due("PLACE 300, mode " + mode, 0, guard, Telegram.shorten(time++, 300));
            CHECK.due("END 300", 3000, guard.display(2));
            due("PLACE 299, mode " + mode, 0, guard, Telegram.shorten(time++, 299));
            CHECK.due("END 299", 2990, guard.display(2));
            due("PLACE 300 again, mode " + mode, 11, guard, Telegram.shorten(time, 300));
            due("PLACE 299 again, mode " + mode, 0, guard, Telegram.shorten(time, 299));
            CHECK.due("the mode stays", mode, guard.mode());
        }
        TrainGuard overlap = Rides.full(20, 10, 0, 300, 500);
        due("above END and before the SUPERVISED place", 11, overlap, Telegram.shorten(1, 301));
    }

    /** With E 12 and S 6 at TOP 107 the curves reach 1341 (3), 1555 (2) and 1769 (1) beyond HIGH, (E, 2, 0) 679. */
    private static void gradeOfTheNewEnd() {
        CHECK.sentence("or, in FULL and ON SIGHT alone, when with END as the PLACE says and everything else as it is"
                + " the GRADE OF DANGER (below, as of now) would be 3 or 4: fault 11.");
        int[] reaches = {1341, 1555, 1769};
        int[] gradesAt = {2, 1, 0};
        for (int i = 0; i < reaches.length; i++) {
            int end = (107 + reaches[i] + 9) / 10;
            TrainGuard at = Rides.at(Rides.full(12, 6, 0, 1000, 0), 10 * end - reaches[i], 107);
            due("the curve ends at the PLACE: grade " + gradesAt[i], 0, at, Telegram.shorten(1, end));
            CHECK.due("the grade", gradesAt[i], at.display(1));
            TrainGuard over = Rides.at(Rides.full(12, 6, 0, 1000, 0), 10 * end + 10 + 1 - reaches[i], 107);
            due("the curve ends 1 behind the PLACE: grade " + (gradesAt[i] + 1), i == 0 ? 11 : 0, over,
                    Telegram.shorten(1, end + 1));
            CHECK.due("the grade", i == 0 ? 0 : gradesAt[i] + 1, over.display(1));
        }
        TrainGuard worse = Rides.at(Rides.full(12, 6, 0, 1000, 0), 110 + 1, 107);
        due("grade 3: (E, 2, 0) ends at 790", 11, worse, Telegram.shorten(1, 79));
        due("grade 4: (E, 2, 0) ends behind 780", 11, worse, Telegram.shorten(1, 78));
        due("PLACE 0", 11, worse, Telegram.shorten(1, 0));
        onSight();
        ceilingCountsToo();
        overlapStaysAsItIs();
    }

    /** At TOP 60 the service curve of 6 reaches 192 + (60 + 54 + .. + 6) = 522. */
    private static void onSight() {
        Telegram authority = Telegram.of(3, 0).authority(1000, 0, 1).profile(0, 127);
        TrainGuard at = Rides.at(Rides.started(new TrainGuard(12, 6, 0), authority), 68, 60);
        due("ON SIGHT: the curve ends at the PLACE", 0, at, Telegram.shorten(1, 59));
        CHECK.due("grade 2", 2, at.display(1));
        TrainGuard over = Rides.at(Rides.started(new TrainGuard(12, 6, 0), authority), 69, 60);
        due("ON SIGHT: the curve ends 1 behind the PLACE", 11, over, Telegram.shorten(1, 59));
        due("ON SIGHT: the next PLACE", 0, over, Telegram.shorten(1, 60));
    }

    private static void ceilingCountsToo() {
        int[] tops = {105, 106, 108, 109};
        for (int top : tops) {
            TrainGuard guard = Rides.at(Rides.started(new TrainGuard(12, 6, 0),
                    Telegram.of(3, 0).authority(3000, 0, 0).profile(0, 20)), 150, top);
            due("TOP " + top + " with the ceiling 100, END as it is", top > 105 ? 11 : 0, guard,
                    Telegram.shorten(1, 3000));
        }
    }

    /** A fall of 63 from 5950 on makes b 1 for the SUPERVISED place: (12, 2, 0) reaches 109 + 111 + 6105 = 6325. */
    private static void overlapStaysAsItIs() {
        for (int overlap = 991; overlap <= 992; overlap++) {
            TrainGuard guard = Rides.started(new TrainGuard(12, 12, 0),
                    Telegram.of(3, 0).authority(600, overlap, 0).profile(0, 127).grades(595, 63));
            due("SUPERVISED place " + (5440 + overlap) + " with (12, 2, 0) up to 6432", overlap == 991 ? 11 : 0,
                    Rides.at(guard, 107, 107), Telegram.shorten(1, 544));
        }
    }

    private static void gradeInOtherModes() {
        CHECK.sentence("in FULL and ON SIGHT alone");
        int[] modes = {0, 1, 5};
        for (int mode : modes) {
            TrainGuard guard = Rides.inMode(mode);
            due("an authority", 0, guard, Telegram.of(3, 5).authority(300, 0, 0));
            guard.cycle(400);
            CHECK.due("grade 4 in mode " + mode, 4, guard.display(1));
            due("a PLACE behind the front", 0, guard, Telegram.shorten(6, 1));
            due("a PLACE at 0", 0, guard, Telegram.shorten(7, 0));
            CHECK.due("the way to END", 0, guard.display(2));
        }
    }

    private static TrainGuard withRestrictions(int count) {
        TrainGuard guard = new TrainGuard(20, 10, 100);
        for (int i = 0; i < count; i++) {
            Telegram.of(24, i).restriction(10 * i, 10 * i, 5, 10 + i).to(guard);
        }
        return guard;
    }

    private static void noRoom() {
        CHECK.sentence("It has RESTRICTIONS, at most six");
        TrainGuard five = withRestrictions(5);
        due("a sixth", 0, five, Telegram.of(24, 10).restriction(99, 100, 5, 1));
        CHECK.due("it holds", 5, five.limit(1000));
        due("a seventh", 12, five, Telegram.of(24, 11).restriction(98, 110, 5, 1));
        CHECK.due("it does not hold", 600, five.limit(1100));
        CHECK.sentence("Packet 65 when, without the restriction whose end is in the same message, there are six"
                + " and none has its number: fault 12.");
        for (int i = 0; i < 6; i++) {
            TrainGuard six = withRestrictions(6);
            due("number " + 10 * i + " again", 0, six, Telegram.of(24, 10).restriction(10 * i, 100, 5, 1));
            CHECK.due("it is in place of the old one", 600, six.limit(100 * i));
            CHECK.due("where it says", 5, six.limit(1000));
            due("still six", 12, six, Telegram.of(24, 11).restriction(10 * i + 1, 100, 5, 1));
        }
        due("kind 3", 12, withRestrictions(6), Telegram.of(3, 10).authority(9, 0, 0).restriction(1, 1, 1, 1));
        due("in kind 3 one of the six", 0, withRestrictions(6),
                Telegram.of(3, 10).authority(9, 0, 0).restriction(50, 1, 1, 1));
        due("number 0 when none of six has it", 12, sixFrom(1), Telegram.of(24, 10).restriction(0, 1, 1, 1));
        due("number 255 when none of six has it", 12, sixFrom(1), Telegram.of(24, 10).restriction(255, 1, 1, 1));
        due("number 255 when one of six has it", 0, sixFrom(250), Telegram.of(24, 10).restriction(255, 1, 1, 1));
    }

    private static TrainGuard sixFrom(int number) {
        TrainGuard guard = new TrainGuard(20, 10, 100);
        for (int i = 0; i < 6; i++) {
            Telegram.of(24, i).restriction(number + i, 10, 5, 10).to(guard);
        }
        return guard;
    }

    private static void roomMadeInTheSameMessage() {
        CHECK.sentence("without the restriction whose end is in the same message");
        for (int i = 0; i < 6; i++) {
            for (int order = 0; order < 2; order++) {
                TrainGuard six = withRestrictions(6);
                Telegram telegram = Telegram.of(24, 10);
                if (order == 0) {
                    telegram.ended(10 * i).restriction(99, 100, 5, 1);
                } else {
                    telegram.restriction(99, 100, 5, 1).ended(10 * i);
                }
                due("the end of " + 10 * i + " and a new one", 0, six, telegram);
                CHECK.due("the old one", 600, six.limit(100 * i));
                CHECK.due("the new one", 5, six.limit(1000));
                due("there are six again", 12, six, Telegram.of(24, 11).restriction(98, 100, 5, 1));
            }
        }
        due("the end of one that is not there", 12, withRestrictions(6),
                Telegram.of(24, 10).ended(1).restriction(99, 100, 5, 1));
        due("its own end, which is not there", 12, withRestrictions(6),
                Telegram.of(24, 10).ended(99).restriction(99, 100, 5, 1));
        TrainGuard own = withRestrictions(6);
        due("its own end and itself", 0, own, Telegram.of(24, 10).ended(30).restriction(30, 100, 5, 1));
        CHECK.due("the new one", 5, own.limit(1000));
        CHECK.due("the old one", 600, own.limit(300));
        due("the end of another and one of the six", 0, own, Telegram.of(24, 11).ended(0).restriction(10, 120, 5, 2));
        due("five now: one more", 0, own, Telegram.of(24, 12).restriction(97, 130, 5, 3));
        due("six now: no more", 12, own, Telegram.of(24, 13).restriction(96, 130, 5, 3));
        due("five, the end of none, one more", 0, withRestrictions(5),
                Telegram.of(24, 10).ended(1).restriction(99, 100, 5, 1));
        TrainGuard earlier = withRestrictions(6);
        due("the end in a message before", 0, earlier, Telegram.of(24, 10).ended(20));
        due("room for one", 0, earlier, Telegram.of(24, 11).restriction(99, 100, 5, 1));
        due("and no more", 12, earlier, Telegram.of(24, 12).restriction(98, 100, 5, 1));
    }

    private static void timeOfWhatIsTaken() {
        CHECK.sentence("Otherwise the message is TAKEN: its TIME is the latest.");
        Telegram[] kinds = {Telegram.of(3, 7).authority(299, 0, 0), Telegram.shorten(7, 299), Telegram.stop(7),
            Telegram.of(24, 7)};
        for (Telegram telegram : kinds) {
            TrainGuard guard = Rides.full(20, 10, 0, 300, 0);
            due("TIME 7", 0, guard, telegram);
            due("TIME 7 again", 3, guard, Telegram.stop(7));
            due("TIME 6", 3, guard, Telegram.stop(6));
            due("TIME 8", 0, guard, Telegram.stop(8));
        }
    }

    private static void inPlaceOfWhatThereWas() {
        CHECK.sentence("each packet puts what it says in place of what there was");
        TrainGuard guard = new TrainGuard(20, 10, 100);
        due("seven of each", 0, guard, Telegram.of(24, 1)
                .marks(1, 1, 0, 2, 2, 0, 3, 3, 0, 4, 4, 0, 5, 5, 0, 6, 6, 0, 7, 7, 0)
                .profile(1, 1, 2, 2, 3, 3, 4, 4, 5, 5, 6, 6, 7, 7));
        CHECK.due("the seventh mark", 70028, guard.marks(6));
        CHECK.due("the seventh step", 35, guard.limit(70));
        due("one of each", 0, guard, Telegram.of(24, 2).marks(9, 9, 0).profile(5, 9));
        CHECK.due("the first mark", 90036, guard.marks(0));
        CHECK.due("no second mark", -1, guard.marks(1));
        CHECK.due("no step before 50", 600, guard.limit(49));
        CHECK.due("the step at 50", 45, guard.limit(50));
        CHECK.due("for ever", 45, guard.limit(1000));
        due("another packet", 0, guard, Telegram.of(24, 3).grades(0, 1));
        CHECK.due("the mark stays", 90036, guard.marks(0));
        CHECK.due("the step stays", 45, guard.limit(50));
        due("an authority", 0, guard, Telegram.of(3, 4).authority(5, 0, 1));
        due("another one, longer", 0, guard, Telegram.of(3, 5).authority(32767, 0, 0));
        CHECK.due("END", 327670, guard.display(2));
        due("no marks at all", 0, guard, Telegram.of(24, 6).marks());
        CHECK.due("no mark", -1, guard.marks(0));
        guard.driver(0);
        CHECK.due("its mode", 2, guard.mode());
    }

    private static void endThenRestriction() {
        CHECK.sentence("first 66 (a restriction with that number is no more), then 65 (in place of the one with its"
                + " number, if there is one), then the others");
        TrainGuard guard = withRestrictions(2);
        due("the end of none", 0, guard, Telegram.of(24, 10).ended(5));
        CHECK.due("the first stays", 50, guard.limit(0));
        CHECK.due("the second stays", 55, guard.limit(100));
        due("65 before 66, one number", 0, guard, Telegram.of(24, 11).restriction(0, 20, 1, 1).ended(0));
        CHECK.due("the old one is no more", 600, guard.limit(0));
        CHECK.due("the new one holds", 5, guard.limit(200));
        due("its end", 0, guard, Telegram.of(24, 12).ended(0));
        CHECK.due("it is no more", 600, guard.limit(200));
        due("its end again", 0, guard, Telegram.of(24, 13).ended(0));
        CHECK.due("the second still stays", 55, guard.limit(100));
    }

    private static void passedAtOnce() {
        CHECK.sentence("a mark is PASSED at once when its place + accuracy is below LOW.");
        for (int low = 69; low <= 72; low++) {
            TrainGuard guard = Rides.staff();
            Rides.creep(guard, low);
            due("marks", 0, guard, Telegram.of(24, 1).marks(1, 9, 60, 6, 1, 10, 7, 2, 0, 8, 3, 0));
            CHECK.due("10 + 60 with LOW " + low, 10036 + (70 < low ? 1 : 0), guard.marks(0));
            CHECK.due("60 + 10 with LOW " + low, 60004 + (70 < low ? 1 : 0), guard.marks(1));
            CHECK.due("70 + 0 with LOW " + low, 70008 + (70 < low ? 1 : 0), guard.marks(2));
            CHECK.due("80 + 0 with LOW " + low, 80012, guard.marks(3));
            CHECK.due("no note of it", 10000 * low + 324, guard.note(0));
            CHECK.due("mark 2", low <= 70, guard.mark(2));
        }
        TrainGuard again = Rides.staff();
        due("a mark", 0, again, Telegram.of(24, 1).marks(1, 1, 30));
        CHECK.due("it is passed", true, again.mark(1));
        due("the same mark in a new packet", 0, again, Telegram.of(24, 2).marks(1, 1, 30));
        CHECK.due("is not passed", 10004, again.marks(0));
    }

    /** In STAND BY and POST TRIP it does not enter, without a profile neither, and kind 24 never does. */
    private static void entering() {
        CHECK.sentence("Then, for kind 3 in STAFF, FULL and ON SIGHT, if there is a profile, the unit ENTERS the mode"
                + " of the authority");
        int[] modes = {0, 1, 2, 3, 5};
        for (int mode : modes) {
            for (int code = 0; code <= 1; code++) {
                TrainGuard guard = Rides.inMode(mode);
                boolean rides = mode >= 1 && mode <= 3;
                due("kind 3 with a profile", 0, guard, Telegram.of(3, 5).authority(299, 0, code).profile(0, 100));
                CHECK.due("mode " + mode + ", authority " + code, rides ? 2 + code : mode, guard.mode());
                TrainGuard later = Rides.inMode(mode);
                due("a profile", 0, later, Telegram.of(24, 5).profile(0, 100));
                CHECK.due("kind 24, mode " + mode, mode, later.mode());
                due("kind 3 when there is a profile", 0, later, Telegram.of(3, 6).authority(299, 0, code));
                CHECK.due("mode " + mode + ", authority " + code, rides ? 2 + code : mode, later.mode());
            }
        }
        TrainGuard staff = Rides.staff();
        due("kind 3 without a profile", 0, staff, Telegram.of(3, 5).authority(299, 0, 0));
        CHECK.due("STAFF", 1, staff.mode());
        due("the profile behind it in kind 24", 0, staff, Telegram.of(24, 6).profile(0, 100));
        CHECK.due("STAFF still", 1, staff.mode());
        due("kind 9", 0, staff, Telegram.shorten(7, 298));
        CHECK.due("STAFF still", 1, staff.mode());
        due("grades alone with kind 3", 0, staff, Telegram.of(3, 8).authority(299, 0, 1).grades());
        CHECK.due("ON SIGHT", 3, staff.mode());
    }

    private static void asking() {
        CHECK.sentence("if that is ON SIGHT and the mode was another one, ON SIGHT is ASKED, and if it is FULL,"
                + " nothing is asked any more.");
        int[] modes = {1, 2, 3};
        for (int mode : modes) {
            TrainGuard guard = Rides.inMode(mode);
            guard.driver(1);
            due("into ON SIGHT", 0, guard, Telegram.of(3, 5).authority(299, 0, 1).profile(0, 100));
            CHECK.due("ASKED, from mode " + mode, mode == 3 ? 0 : 1, guard.state(4));
            due("ON SIGHT again", 0, guard, Telegram.of(3, 6).authority(299, 0, 1));
            CHECK.due("as before", mode == 3 ? 0 : 1, guard.state(4));
            due("into FULL", 0, guard, Telegram.of(3, 7).authority(299, 0, 0));
            CHECK.due("nothing is asked", 0, guard.state(4));
            CHECK.due("ACKNOWLEDGE", false, guard.driver(1));
            due("into ON SIGHT", 0, guard, Telegram.of(3, 8).authority(299, 0, 1));
            CHECK.due("asked anew", 1, guard.state(4));
        }
    }
}
