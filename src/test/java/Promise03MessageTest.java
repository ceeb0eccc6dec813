/** Promise 3: the faults of messages in the order in which they are met, and what a message that is taken does. */
public final class Promise03MessageTest {
    private static final Check CHECK = new Check("Promise03MessageTest");

    public static void main(String[] args) {
        heads();
        times();
        ends();
        packetHeads();
        sizes();
        numbers();
        kindsAndPackets();
        modes();
        shortening();
        shorteningUnderWay();
        restrictionsHaveRoom();
        othersStay();
        restrictionsAreReplaced();
        packetsAreReplaced();
        limitsAndPlaces();
        entering();
        stopping();
        notes();
        CHECK.end();
    }

    private static TrainGuard fresh() {
        return new TrainGuard(20, 10, 100);
    }

    /** A fault changes nothing but the record and the bits. */
    private static void fault(String what, int want, TrainGuard guard, Telegram telegram) {
        telegram.bitsTo(guard);
        int latest = guard.note(0);
        int mode = guard.mode();
        int end = guard.display(2);
        int mark = guard.marks(0);
        CHECK.due(what, want, guard.message());
        CHECK.due(what + ": bits left", 0, guard.state(6));
        CHECK.due(what + ": its note", 10000 * guard.state(5) + 400 + want, guard.note(0));
        CHECK.due(what + ": the note before", latest, guard.note(1));
        CHECK.due(what + ": the mode", mode, guard.mode());
        CHECK.due(what + ": the way to the end", end, guard.display(2));
        CHECK.due(what + ": the first mark", mark, guard.marks(0));
    }

    private static void taken(String what, TrainGuard guard, Telegram telegram) {
        CHECK.due(what, 0, telegram.to(guard));
        CHECK.due(what + ": bits left", 0, guard.state(6));
    }

    private static void heads() {
        fault("no bits", 2, fresh(), Telegram.raw(""));
        fault("7 bits of KIND", 2, fresh(), Telegram.raw("0000111"));
        for (int kind = 0; kind < 256; kind++) {
            boolean known = kind == 3 || kind == 9 || kind == 16 || kind == 24;
            fault("KIND " + kind + " alone", known ? 2 : 1, fresh(), Telegram.raw("").put(kind, 8));
        }
        fault("9 bits of LENGTH", 2, fresh(), Telegram.raw("00010000" + "000010001"));
        fault("LENGTH too small", 2, fresh(), Telegram.stop(1).lengthOffBy(-1));
        fault("LENGTH too great", 2, fresh(), Telegram.stop(1).lengthOffBy(1));
        fault("LENGTH right, no TIME", 2, fresh(), Telegram.stop(1).cutTo(18));
        fault("15 bits of TIME", 2, fresh(), Telegram.stop(1).cutTo(33));
        TrainGuard guard = fresh();
        Telegram.stop(7).to(guard);
        fault("unknown KIND before LENGTH", 1, guard, Telegram.of(17, 9).lengthOffBy(5));
        fault("LENGTH before TIME", 2, guard, Telegram.stop(7).lengthOffBy(5));
        fault("TIME before bits too many", 3, guard, Telegram.stop(7).put(0, 1));
    }

    private static void times() {
        TrainGuard guard = fresh();
        taken("TIME 0 as the first", guard, Telegram.stop(0));
        fault("TIME 0 again", 3, guard, Telegram.stop(0));
        taken("TIME 1", guard, Telegram.stop(1));
        fault("a message with a fault", 9, guard, Telegram.shorten(60000, 1));
        taken("the TIME of that does not count", guard, Telegram.stop(2));
        taken("the greatest TIME", guard, Telegram.stop(65535));
        fault("nothing is greater", 3, guard, Telegram.stop(65535));
        fault("nor less", 3, guard, Telegram.stop(3));
    }

    private static void ends() {
        fault("kind 16, a bit more", 2, fresh(), Telegram.stop(1).put(0, 1));
        fault("kind 9, 14 bits of PLACE", 2, fresh(), Telegram.of(9, 1).put(0, 14));
        fault("kind 9, a bit more", 2, fresh(), Telegram.of(9, 1).put(0, 16));
        taken("kind 24 without packets", fresh(), Telegram.of(24, 1));
    }

    private static void packetHeads() {
        fault("7 bits of ID", 2, fresh(), Telegram.of(24, 1).put(66, 7));
        fault("12 bits of SIZE", 2, fresh(), Telegram.of(24, 1).put(66, 8).put(21, 12));
        for (int id = 0; id < 256; id++) {
            boolean known = id == 5 || id == 15 || id == 21 || id == 27 || id == 65 || id == 66;
            fault("ID " + id + " alone", known ? 2 : 4, fresh(), Telegram.of(24, 1).put(id, 8));
        }
        fault("an ID again, before its SIZE", 7, fresh(), Telegram.of(24, 1).ended(1).put(66, 8));
        int[] ids = {5, 15, 21, 27, 65, 66};
        for (int id : ids) {
            Telegram telegram = Telegram.of(3, 1).marks().authority(9, 0, 0).grades().profile(0, 1)
                    .restriction(1, 1, 1, 1).ended(1);
            fault("ID " + id + " behind all of them", 7, fresh(), telegram.put(id, 8).put(0, 13));
        }
        fault("an ID again, with another between", 7, fresh(), Telegram.of(24, 1).ended(1).grades().ended(2));
    }

    private static void sizes() {
        fault("SIZE 0", 2, fresh(), Telegram.of(24, 1).packet(66, -29, 1, 8));
        fault("SIZE 20", 2, fresh(), Telegram.of(24, 1).packet(66, -9, 1, 8));
        fault("SIZE 21 of 29", 5, fresh(), Telegram.of(24, 1).packet(66, -8, 1, 8));
        fault("SIZE 28 of 29", 5, fresh(), Telegram.of(24, 1).packet(66, -1, 1, 8));
        fault("SIZE 30 of 29, the last packet", 2, fresh(), Telegram.of(24, 1).packet(66, 1, 1, 8));
        fault("SIZE 30 of 29, bits behind", 5, fresh(), Telegram.of(24, 1).packet(66, 1, 1, 8).grades());
        fault("SIZE 21, no numbers", 2, fresh(), Telegram.of(24, 1).packet(66, 0));
        fault("SIZE 28, 7 bits of a number", 2, fresh(), Telegram.of(24, 1).packet(66, 0, 1, 7));
        fault("numbers over SIZE into the next packet", 5, fresh(), Telegram.of(24, 1).packet(66, 0).grades());
        fault("a bit behind the numbers", 5, fresh(), Telegram.of(24, 1).packet(66, 0, 1, 8, 0, 1));
        fault("a wrong number before a wrong SIZE", 6, fresh(), Telegram.of(3, 1).packet(15, -1, 9, 15, 0, 10, 2, 2));
        fault("a list shorter than its N says", 2, fresh(), Telegram.of(24, 1).packet(21, 0, 2, 3, 5, 15, 1, 6));
        fault("a list longer than its N says", 5, fresh(),
                Telegram.of(24, 1).packet(21, 0, 1, 3, 5, 15, 1, 6, 9, 15, 1, 6));
        fault("7 bits behind all packets", 2, fresh(), Telegram.of(24, 1).grades().put(0, 7));
    }

    private static void numbers() {
        fault("mode 2 of an authority", 6, fresh(), Telegram.of(3, 1).authority(9, 0, 2));
        fault("mode 3 of an authority", 6, fresh(), Telegram.of(3, 1).authority(9, 0, 3));
        fault("a mark at the same place", 6, fresh(), Telegram.of(24, 1).marks(5, 1, 0, 5, 2, 0));
        fault("a mark before the other", 6, fresh(), Telegram.of(24, 1).marks(5, 1, 0, 4, 2, 0));
        fault("a grade at the same place", 6, fresh(), Telegram.of(24, 1).grades(0, 1, 0, 2));
        fault("a step at the same place", 6, fresh(), Telegram.of(24, 1).profile(3, 1, 7, 3, 7, 2));
        fault("a profile of no steps", 6, fresh(), Telegram.of(24, 1).profile());
        fault("a restriction without length", 6, fresh(), Telegram.of(24, 1).restriction(1, 5, 0, 9));
        fault("as soon as it has been read: length", 6, fresh(),
                Telegram.of(24, 1).packet(65, 0, 1, 8, 5, 15, 0, 15));
        fault("as soon as it has been read: place", 6, fresh(),
                Telegram.of(24, 1).packet(5, 0, 2, 3, 5, 15, 1, 8, 0, 6, 5, 15));
        fault("as soon as it has been read: N", 6, fresh(), Telegram.of(24, 1).packet(27, 0, 0, 3));
        taken("no marks", fresh(), Telegram.of(24, 1).marks());
        taken("no grades", fresh(), Telegram.of(24, 1).grades());
        taken("places from 0 on", fresh(), Telegram.of(24, 1).marks(0, 1, 0, 1, 1, 0).grades(0, 0).profile(0, 0));
        taken("seven of each", fresh(), Telegram.of(24, 1)
                .marks(0, 1, 0, 1, 1, 0, 2, 1, 0, 3, 1, 0, 4, 1, 0, 5, 1, 0, 32767, 255, 63)
                .profile(0, 0, 1, 0, 2, 0, 3, 0, 4, 0, 5, 0, 32767, 127));
        taken("all packets", fresh(), Telegram.of(3, 1).ended(0).restriction(255, 32767, 32767, 127)
                .profile(32767, 127).grades(32767, 63).authority(32767, 1023, 1).marks(32767, 255, 63));
    }

    private static void kindsAndPackets() {
        fault("kind 3 without packets", 8, fresh(), Telegram.of(3, 1));
        fault("kind 3 without 15", 8, fresh(), Telegram.of(3, 1).profile(0, 5).grades());
        fault("kind 24 with 15", 8, fresh(), Telegram.of(24, 1).grades().authority(9, 0, 0));
        taken("kind 3 with 15", fresh(), Telegram.of(3, 1).authority(9, 0, 0));
    }

    private static void modes() {
        int[] kinds = {3, 9, 16, 24};
        for (int kind : kinds) {
            Telegram telegram = kind == 3 ? Telegram.of(3, 5).authority(9, 0, 0)
                    : kind == 9 ? Telegram.shorten(5, 9) : Telegram.of(kind, 5);
            fault("kind " + kind + " in FAILED", 9, Rides.failed(), telegram);
            if (kind == 16) {
                taken("kind 16 in TRIP", Rides.tripped(), telegram);
            } else {
                fault("kind " + kind + " in TRIP", 9, Rides.tripped(), telegram);
            }
        }
        fault("fault 8 before fault 9", 8, Rides.failed(), Telegram.of(3, 5));
        TrainGuard guard = Rides.full(20, 10, 0, 300, 0);
        guard.cycle(501);
        fault("kind 9 in FAILED with an authority", 9, guard, Telegram.shorten(5, 299));
        taken("kind 24 in POST TRIP", Rides.postTrip(), Telegram.of(24, 5));
    }

    private static void shortening() {
        fault("kind 9 without an authority", 10, fresh(), Telegram.shorten(1, 0));
        fault("kind 9 in STAFF without an authority", 10, Rides.staff(), Telegram.shorten(1, 0));
        TrainGuard guard = fresh();
        taken("an authority to 500", guard, Telegram.of(3, 0).authority(50, 0, 0));
        fault("PLACE above END", 11, guard, Telegram.shorten(1, 51));
        taken("PLACE at END", guard, Telegram.shorten(1, 50));
        CHECK.due("END stays", 500, guard.display(2));
        taken("PLACE before END", guard, Telegram.shorten(2, 49));
        CHECK.due("END is the PLACE", 490, guard.display(2));
        fault("the old END is above it now", 11, guard, Telegram.shorten(3, 50));
        guard.driver(0);
        guard.cycle(70);
        CHECK.due("STAFF, as there is no profile", 1, guard.mode());
        taken("in STAFF no grade is asked for", guard, Telegram.shorten(3, 0));
        CHECK.due("END is behind the front", 0, guard.display(2));
    }

    /** At HIGH 107 and TOP 107 the service curve reaches to 107 + 109 + 111 + 113 + 1008 = 1448. */
    private static void shorteningUnderWay() {
        TrainGuard guard = Rides.full(12, 6, 0, 300, 0);
        guard.cycle(100);
        fault("grade would be 3", 11, guard, Telegram.shorten(1, 144));
        fault("grade would be 4", 11, guard, Telegram.shorten(1, 20));
        CHECK.due("END stays", 3000 - 107, guard.display(2));
        taken("grade would be 2", guard, Telegram.shorten(1, 145));
        CHECK.due("END is 1450", 1450 - 107, guard.display(2));
        CHECK.due("the grade is 2 now", 2, guard.display(1));
        TrainGuard fast = Rides.started(new TrainGuard(12, 6, 0),
                Telegram.of(3, 0).authority(3000, 0, 0).profile(0, 20));
        fast.cycle(98);
        CHECK.due("TOP", 105, fast.state(2));
        taken("5 above the ceiling", fast, Telegram.shorten(1, 2999));
        fast.cycle(99);
        CHECK.due("TOP", 106, fast.state(2));
        fault("6 above the ceiling", 11, fast, Telegram.shorten(2, 2998));
        overlapStays();
    }

    /** The fall in the overlap is for the emergency curve alone, which reaches to 107 + 109 + 111 + 6105 = 6432. */
    private static void overlapStays() {
        for (int overlap = 991; overlap <= 992; overlap++) {
            TrainGuard guard = Rides.started(new TrainGuard(12, 12, 0),
                    Telegram.of(3, 0).authority(600, overlap, 0).profile(0, 127).grades(595, 63));
            guard.cycle(100);
            Telegram telegram = Telegram.shorten(1, 544);
            if (overlap == 991) {
                fault("SUPERVISED place at 6431", 11, guard, telegram);
            } else {
                taken("SUPERVISED place at 6432", guard, telegram);
            }
        }
    }

    private static TrainGuard withSixRestrictions() {
        TrainGuard guard = fresh();
        for (int i = 0; i < 6; i++) {
            taken("restriction " + i, guard, Telegram.of(24, i).restriction(i, 10 * i, 5, 10 + i));
        }
        return guard;
    }

    private static void restrictionsHaveRoom() {
        TrainGuard guard = withSixRestrictions();
        fault("a seventh", 12, guard, Telegram.of(24, 9).restriction(6, 100, 5, 1));
        CHECK.due("it does not hold", 600, guard.limit(1000));
        fault("a seventh, the end of one that is not there", 12, guard,
                Telegram.of(24, 9).ended(7).restriction(6, 100, 5, 1));
        fault("a seventh, its own end", 12, guard, Telegram.of(24, 9).ended(6).restriction(6, 100, 5, 1));
        taken("the first of the six", guard, Telegram.of(24, 8).restriction(0, 0, 5, 10));
        taken("one of the six", guard, Telegram.of(24, 9).restriction(3, 100, 5, 1));
        CHECK.due("it holds at its new place", 5, guard.limit(1000));
        CHECK.due("and not at the old one", 600, guard.limit(300));
        taken("a seventh and the end of one, the end last", guard,
                Telegram.of(24, 10).restriction(6, 200, 5, 2).ended(0));
        CHECK.due("the new one", 10, guard.limit(2000));
        CHECK.due("the ended one", 600, guard.limit(0));
        taken("the end of one", guard, Telegram.of(24, 11).ended(1));
        taken("room for one more", guard, Telegram.of(24, 12).restriction(8, 300, 5, 3));
        fault("and no more", 12, guard, Telegram.of(24, 13).restriction(9, 300, 5, 3));
    }

    private static void othersStay() {
        for (int ended = 0; ended < 6; ended++) {
            TrainGuard full = withSixRestrictions();
            taken("a seventh in its stead", full, Telegram.of(24, 9).ended(ended).restriction(6, 100, 5, 1));
            CHECK.due("the seventh", 5, full.limit(1000));
            CHECK.due("the ended one", 600, full.limit(100 * ended));
            TrainGuard guard = withSixRestrictions();
            taken("the end of one", guard, Telegram.of(24, 9).ended(ended));
            for (int i = 0; i < 6; i++) {
                int want = i == ended ? 600 : 50 + 5 * i;
                CHECK.due(ended + " ended, before " + i, 600, guard.limit(100 * i - 1));
                CHECK.due(ended + " ended, first place of " + i, want, guard.limit(100 * i));
                CHECK.due(ended + " ended, last place of " + i, want, guard.limit(100 * i + 49));
                CHECK.due(ended + " ended, behind " + i, 600, guard.limit(100 * i + 50));
            }
            for (int i = 0; i < 6; i++) {
                taken("the end of another", guard, Telegram.of(24, 10 + i).ended(i));
                CHECK.due("it is no more", 600, guard.limit(100 * i));
            }
        }
    }

    private static void restrictionsAreReplaced() {
        TrainGuard guard = fresh();
        taken("an end of none", guard, Telegram.of(24, 0).ended(5));
        taken("a restriction", guard, Telegram.of(24, 1).restriction(5, 10, 5, 10));
        taken("its end and itself anew, the end last", guard, Telegram.of(24, 2).restriction(5, 20, 5, 20).ended(5));
        CHECK.due("the new one holds", 100, guard.limit(200));
        CHECK.due("the old one is gone", 600, guard.limit(100));
        taken("another one there", guard, Telegram.of(24, 3).restriction(6, 22, 5, 30));
        CHECK.due("the least of both", 100, guard.limit(220));
        CHECK.due("behind the first", 150, guard.limit(250));
        taken("the end of the first", guard, Telegram.of(24, 4).ended(5));
        CHECK.due("the second alone", 150, guard.limit(220));
        Telegram.stop(5).to(guard);
        CHECK.due("restrictions stay when it trips", 150, guard.limit(220));
    }

    private static void packetsAreReplaced() {
        TrainGuard guard = Rides.full(20, 10, 0, 300, 0);
        taken("marks and steps", guard, Telegram.of(24, 1).marks(5, 1, 0, 6, 2, 0).profile(10, 20, 20, 30));
        CHECK.due("steps are replaced", 600, guard.limit(99));
        CHECK.due("first step", 100, guard.limit(100));
        CHECK.due("second mark", 60008, guard.marks(1));
        taken("grades alone", guard, Telegram.of(24, 2).grades(0, 8));
        CHECK.due("the rest stays", 150, guard.limit(200));
        CHECK.due("END stays", 3000, guard.display(2));
        int steep = guard.display(0);
        taken("no grades, one mark", guard, Telegram.of(24, 3).grades().marks(7, 3, 0));
        CHECK.due("first mark", 70012, guard.marks(0));
        CHECK.due("no second mark", -1, guard.marks(1));
        CHECK.due("without a fall it may go faster", true, guard.display(0) > steep);
        taken("no marks", guard, Telegram.of(24, 4).marks());
        CHECK.due("no mark", -1, guard.marks(0));
        taken("another authority", guard, Telegram.of(3, 5).authority(100, 0, 1));
        CHECK.due("another END", 1000, guard.display(2));
        CHECK.due("another mode", 3, guard.mode());
        Rides.creep(guard, 71);
        taken("marks behind and before the train", guard, Telegram.of(24, 6).marks(5, 1, 20, 6, 2, 11, 7, 3, 0));
        CHECK.due("place + accuracy 70 below LOW 71", 50005, guard.marks(0));
        CHECK.due("place + accuracy 71 at LOW 71", 60008, guard.marks(1));
        CHECK.due("place 70 below LOW 71", 70013, guard.marks(2));
        CHECK.due("no note of that", 710324, guard.note(0));
    }

    private static void limitsAndPlaces() {
        TrainGuard guard = fresh();
        taken("great limits", guard, Telegram.of(24, 1).profile(0, 119, 1, 120, 2, 121, 3, 127, 4, 0, 32767, 1));
        CHECK.due("119", 595, guard.limit(9));
        CHECK.due("120", 600, guard.limit(10));
        CHECK.due("121", 600, guard.limit(20));
        CHECK.due("127", 600, guard.limit(30));
        CHECK.due("0", 0, guard.limit(40));
        CHECK.due("up to the last place", 0, guard.limit(327669));
        CHECK.due("from the last place", 5, guard.limit(327670));
        taken("a great restriction", guard, Telegram.of(24, 2).profile(0, 127).restriction(1, 1, 32767, 127));
        CHECK.due("its limit is at most MAX", 600, guard.limit(10));
    }

    private static void entering() {
        TrainGuard guard = fresh();
        taken("in STAND BY", guard, Telegram.of(3, 0).authority(300, 0, 1).profile(0, 127));
        CHECK.due("it stays in STAND BY", 0, guard.mode());
        TrainGuard staff = Rides.staff();
        taken("in STAFF without a profile", staff, Telegram.of(3, 0).authority(300, 0, 0));
        CHECK.due("it stays in STAFF", 1, staff.mode());
        taken("a profile alone", staff, Telegram.of(24, 1).profile(0, 127));
        CHECK.due("kind 24 does not enter", 1, staff.mode());
        taken("in STAFF with a profile", staff, Telegram.of(3, 2).authority(300, 0, 0));
        CHECK.due("FULL", 2, staff.mode());
        CHECK.due("nothing is asked", 0, staff.state(4));
        taken("ON SIGHT in FULL", staff, Telegram.of(3, 3).authority(300, 0, 1));
        CHECK.due("ON SIGHT", 3, staff.mode());
        CHECK.due("it is asked", 1, staff.state(4));
        taken("ON SIGHT again", staff, Telegram.of(3, 4).authority(300, 0, 1));
        CHECK.due("still asked", 1, staff.state(4));
        staff.driver(1);
        taken("ON SIGHT once more", staff, Telegram.of(3, 5).authority(300, 0, 1));
        CHECK.due("not asked again", 0, staff.state(4));
        taken("FULL", staff, Telegram.of(3, 6).authority(300, 0, 0));
        taken("ON SIGHT", staff, Telegram.of(3, 7).authority(300, 0, 1));
        CHECK.due("asked anew", 1, staff.state(4));
        taken("FULL in ON SIGHT", staff, Telegram.of(3, 8).authority(300, 0, 0));
        CHECK.due("FULL again", 2, staff.mode());
        CHECK.due("nothing is asked any more", 0, staff.state(4));
        TrainGuard post = Rides.postTrip();
        taken("in POST TRIP", post, Telegram.of(3, 1).authority(300, 0, 0).profile(0, 127));
        CHECK.due("it stays in POST TRIP", 5, post.mode());
    }

    private static void stopping() {
        TrainGuard guard = Rides.started(fresh(), Telegram.of(3, 0).authority(300, 0, 1).profile(0, 20)
                .marks(5, 1, 0).grades(0, 5).restriction(1, 40, 5, 10));
        taken("kind 16", guard, Telegram.stop(1));
        CHECK.due("TRIP", 4, guard.mode());
        CHECK.due("no authority", -1, guard.display(2));
        CHECK.due("no profile", 600, guard.limit(0));
        CHECK.due("the restriction", 50, guard.limit(400));
        CHECK.due("no marks", -1, guard.marks(0));
        CHECK.due("nothing is asked", 0, guard.state(4));
        CHECK.due("no command before a cycle", 0, guard.state(3));
        CHECK.dueNotes("a trip", guard, 303, 700, 103, 316, 104);
        taken("kind 16 in TRIP", guard, Telegram.stop(2));
        CHECK.dueNotes("no other trip", guard, 104, 316);
        guard.driver(2);
        taken("an authority, no grades", guard, Telegram.of(3, 3).authority(300, 0, 0).profile(0, 127).ended(1));
        guard.driver(0);
        CHECK.due("the grades were deleted", Rides.full(20, 10, 100, 300, 0).display(0), guard.display(0));
    }

    private static void notes() {
        TrainGuard guard = Rides.staff();
        guard.cycle(0);
        taken("into FULL", guard, Telegram.of(3, 1).authority(300, 0, 0).profile(0, 127));
        CHECK.dueNotes("the message before the mode", guard, 700, 101, 10303, 10102);
        taken("kind 24", guard, Telegram.of(24, 2));
        taken("kind 9", guard, Telegram.shorten(3, 299));
        CHECK.dueNotes("kinds", guard, 10324, 10309);
        fault("fault 11", 11, guard, Telegram.shorten(4, 300));
        CHECK.dueNotes("a fault", guard, 10309, 10411);
    }
}
