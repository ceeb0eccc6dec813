/** The terms BRAKING WAY, OVER A CURVE, THE GRADE OF DANGER and ALLOWED, on both sides of each boundary. */
public final class EdgesOfCurvesTest {
    private static final Check CHECK = new Check("EdgesOfCurvesTest");
    private static final int[] TOPS = {2, 3, 40, 107, 108, 250};

    public static void main(String[] args) {
        wayAtMost();
        wayToNothing();
        aboveTheEnd();
        aboveTheSupervisedPlace();
        aboveAStep();
        atRest();
        greatestSpeed();
        atLeastOne();
        aboveTheCeiling();
        theFirstThatHolds();
        ceilingAndCurveTogether();
        stopped();
        allowedSpeeds();
        allowedAtMostMax();
        noneAllowed();
        CHECK.end();
    }

    private static void wayAtMost() {
        CHECK.sentence("BRAKING WAY(w, u, b): 0 if w is at most u");
        TrainGuard guard = new TrainGuard(20, 10, 0);
        CHECK.due("49 to 50", 0, guard.way(49, 50, 1));
        CHECK.due("50 to 50", 0, guard.way(50, 50, 1));
        CHECK.due("51 to 50: 50", 50, guard.way(51, 50, 1));
        CHECK.due("52 to 50: 51 + 50", 101, guard.way(52, 50, 1));
        CHECK.due("52 to 50 by 2: 50", 50, guard.way(52, 50, 2));
        CHECK.due("52 to 50 by 3: 49", 49, guard.way(52, 50, 3));
        CHECK.due("53 to 50 by 2: 51 + 49", 100, guard.way(53, 50, 2));
        CHECK.due("0 to 0", 0, guard.way(0, 0, 40));
        CHECK.due("600 to 600", 0, guard.way(600, 600, 1));
        CHECK.due("600 to 599: 599", 599, guard.way(600, 599, 1));
    }

    private static void wayToNothing() {
        CHECK.sentence("otherwise w becomes w - b (or 0, if that is less than 0)");
        TrainGuard guard = new TrainGuard(20, 10, 0);
        CHECK.due("11 by 10: 1 + 0", 1, guard.way(11, 0, 10));
        CHECK.due("10 by 10: 0", 0, guard.way(10, 0, 10));
        CHECK.due("9 by 10: 0", 0, guard.way(9, 0, 10));
        CHECK.due("1 by 40: 0", 0, guard.way(1, 0, 40));
        CHECK.due("11 to 5 by 10: 1", 1, guard.way(11, 5, 10));
        CHECK.due("10 to 5 by 10: 0", 0, guard.way(10, 5, 10));
        CHECK.due("9 to 5 by 10: 0", 0, guard.way(9, 5, 10));
        CHECK.due("25 by 10: 15 + 5 + 0", 20, guard.way(25, 0, 10));
        CHECK.due("1 by 1: 0", 0, guard.way(1, 0, 1));
        CHECK.due("2 by 1: 1 + 0", 1, guard.way(2, 0, 1));
        CHECK.due("600 by 1", 599 * 600 / 2, guard.way(600, 0, 1));
    }

    /** How far beyond HIGH the curve (d, k, j) reaches from v down to u, added up as the document says it. */
    private static int reach(int v, int d, int k, int j, int u) {
        int reach = 0;
        for (int i = 1; i <= k; i++) {
            reach += v + 2 * i;
        }
        return reach + j * v + PlainModel.brakingWay(v + 2 * k, u, d);
    }

    /** A place in tens that leaves room for a slow way before the last cycle with this TOP. */
    private static int placeFor(int reach, int top) {
        return (reach + top + 2 + 9) / 10;
    }

    private static void aboveTheEnd() {
        CHECK.sentence("HIGH + (v + 2) + (v + 4) + .. + (v + 2 * k) + j * v + BRAKING WAY(v + 2 * k, u, b) is above t");
        int[] services = {2, 6, 11, 40};
        for (int top : TOPS) {
            for (int service : services) {
                for (int j = 0; j <= 4; j += 2) {
                    int reach = reach(top, service, 3, j, 0);
                    int end = placeFor(reach, top);
                    for (int code = 0; code <= (top <= 40 ? 1 : 0); code++) {
                        String what = "(" + service + ", 3, " + j + ") of " + top;
                        endAt(what, service, end, code, 10 * end - reach, top, j);
                    }
                }
            }
        }
    }

    /** The curve ends at END when HIGH is as given: then its grade does not hold yet. */
    private static void endAt(String what, int service, int end, int code, int high, int top, int j) {
        Telegram telegram = Telegram.of(3, 0).authority(end, 1023, code).profile(0, 127);
        int grade = j == 0 ? 3 : j == 2 ? 2 : 1;
        TrainGuard at = Rides.at(Rides.started(new TrainGuard(40, service, 0), telegram), high, top);
        CHECK.due(what + " ends at END", grade - 1, at.display(1));
        TrainGuard over = Rides.at(Rides.started(new TrainGuard(40, service, 0), telegram), high + 1, top);
        CHECK.due(what + " ends at END + 1", grade, over.display(1));
    }

    private static void aboveTheSupervisedPlace() {
        CHECK.sentence("4 if v is .. over the curve (E, 2, 0)");
        int[] emergencies = {4, 5, 12, 40};
        for (int top : TOPS) {
            for (int emergency : emergencies) {
                int supervised = top + reach(top, emergency, 2, 0, 0);
                for (int before = -1; before <= 1; before++) {
                    int overlap = (supervised - before) % 10;
                    int end = (supervised - before - overlap) / 10;
                    TrainGuard guard = Rides.at(Rides.full(emergency, 2, 0, end, overlap), top, top);
                    CHECK.due("(" + emergency + ", 2, 0) of " + top + " ends " + before + " behind",
                            before > 0 ? 4 : 3, guard.display(1));
                }
            }
        }
    }

    private static TrainGuard beforeStep(int emergency, int service, int place, int limit, boolean restricted) {
        Telegram telegram = Telegram.of(3, 0).authority(32767, 0, 0);
        if (restricted) {
            telegram.profile(0, 127).restriction(1, place, 1, limit);
        } else {
            telegram.profile(0, 127, place, limit);
        }
        return Rides.started(new TrainGuard(emergency, service, 0), telegram);
    }

    private static void aboveAStep() {
        CHECK.sentence("if for some target (place t, speed u) .. is above t");
        int[] limits = {0, 7, 20};
        for (int kind = 0; kind <= 1; kind++) {
            for (int limit : limits) {
                for (int j = 0; j <= 4; j += 2) {
                    int reach = reach(107, 6, 3, j, 5 * limit);
                    stepAt(kind == 1, 12, limit, reach, j == 0 ? 3 : j == 2 ? 2 : 1);
                }
                stepAt(kind == 1, 12, limit, reach(107, 12, 2, 0, 5 * limit), 4);
            }
        }
    }

    private static void stepAt(boolean restricted, int emergency, int limit, int reach, int grade) {
        int place = placeFor(reach, 107);
        String what = (restricted ? "a restriction of " : "a step of ") + 5 * limit + ", the curve of grade " + grade;
        TrainGuard at = Rides.at(beforeStep(emergency, 6, place, limit, restricted), 10 * place - reach, 107);
        CHECK.due(what + " ends there", grade - 1, at.display(1));
        TrainGuard over = Rides.at(beforeStep(emergency, 6, place, limit, restricted), 10 * place - reach + 1, 107);
        CHECK.due(what + " ends 1 behind", grade, over.display(1));
    }

    /** At rest the service curves are one: 2 + 4 + 6 + BRAKING WAY(6, 0, b); the emergency curve is 2 + 4 + 0. */
    private static void atRest() {
        CHECK.sentence("the curves of v 0");
        int[] services = {2, 3, 5, 6, 7};
        int[] reaches = {12 + 4 + 2, 12 + 3, 12 + 1, 12, 12};
        for (int i = 0; i < services.length; i++) {
            TrainGuard at = Rides.at(Rides.full(40, services[i], 0, 5, 0), 50 - reaches[i], 0);
            CHECK.due("service " + services[i] + " ends at END", 0, at.display(1));
            TrainGuard over = Rides.at(Rides.full(40, services[i], 0, 5, 0), 50 - reaches[i] + 1, 0);
            CHECK.due("service " + services[i] + " ends at END + 1", 3, over.display(1));
        }
        CHECK.due("HIGH + 6 at END", 3, Rides.at(Rides.full(4, 4, 0, 5, 0), 44, 0).display(1));
        CHECK.due("HIGH + 6 at END + 1", 4, Rides.at(Rides.full(4, 4, 0, 5, 0), 45, 0).display(1));
    }

    private static void greatestSpeed() {
        CHECK.sentence("with the greatest speed v + 2 * k above u");
        int[] tops = {103, 104, 105, 106, 107, 108};
        int[] grades = {0, 0, 3, 3, 4, 4};
        for (int i = 0; i < tops.length; i++) {
            CHECK.due(tops[i] + " close before a step of 110", grades[i],
                    Rides.at(beforeStep(12, 6, 13, 22, false), 129, tops[i]).display(1));
            CHECK.due(tops[i] + " close before a restriction of 110", grades[i],
                    Rides.at(beforeStep(12, 6, 13, 22, true), 129, tops[i]).display(1));
        }
        TrainGuard slow = Rides.full(12, 6, 0, 32767, 0);
        CHECK.due("a step of 5 ahead", 0, Telegram.of(24, 1).profile(0, 127, 1, 1).to(slow));
        CHECK.due("at rest 0 + 6 is above 5, 0 + 4 is not: 12 of 10", 3, slow.display(1));
        CHECK.due("a step of 10 ahead", 0, Telegram.of(24, 2).profile(0, 127, 1, 2).to(slow));
        CHECK.due("4 + 6 is not above 10", 4, slow.display(0));
        CHECK.due("a step of 0 ahead", 0, Telegram.of(24, 3).profile(0, 127, 1, 0).to(slow));
        CHECK.due("0 + 4 is above 0: 6 of 10", 3, slow.display(1));
    }

    /** With E and S 12: a fall of 10 leaves b 2, one of 11 leaves 1, and greater ones leave 1 too. */
    private static void atLeastOne() {
        CHECK.sentence("b being d less the FALL at the target, but at least 1");
        int[] falls = {0, 1, 9, 10, 11, 12, 13, 63};
        int[] decelerations = {12, 11, 3, 2, 1, 1, 1, 1};
        for (int i = 0; i < falls.length; i++) {
            int reach = reach(40, decelerations[i], 3, 0, 0);
            int end = placeFor(reach, 40);
            for (int more = 0; more <= 1; more++) {
                TrainGuard guard = Rides.started(new TrainGuard(40, 12, 0),
                        Telegram.of(3, 0).authority(end, 1023, 0).profile(0, 127).grades(0, falls[i]));
                CHECK.due("service 12 with a fall of " + falls[i] + " ends " + more + " behind END", 2 + more,
                        Rides.at(guard, 10 * end - reach + more, 40).display(1));
            }
            int supervised = 40 + reach(40, decelerations[i], 2, 0, 0);
            for (int less = 0; less <= 1; less++) {
                int overlap = (supervised - less) % 10;
                TrainGuard guard = Rides.started(new TrainGuard(12, 2, 0), Telegram.of(3, 0)
                        .authority((supervised - less - overlap) / 10, overlap, 0).profile(0, 127).grades(0, falls[i]));
                CHECK.due("emergency 12 with a fall of " + falls[i] + " ends " + less + " behind", 3 + less,
                        Rides.at(guard, 40, 40).display(1));
            }
        }
    }

    /** Not each TOP can be: none is 85, which is 5 above the ceiling of STAFF, nor 68, 8 above that of ON SIGHT. */
    private static void aboveTheCeiling() {
        CHECK.sentence("4 if v is above the ceiling + 8 ..; 3 if above the ceiling + 5 ..; 2 if above the ceiling + 3"
                + " ..; 1 if above the ceiling ..; else 0.");
        ceiling("STAND BY", 0, 0, 0, 2, 1, 3, 1, 4, 2, 5, 2, 6, 3, 7, 3, 8, 3, 9, 4);
        ceiling("POST TRIP", 5, 0, 0, 2, 1, 3, 1, 4, 2, 5, 2, 6, 3, 7, 3, 8, 3, 9, 4);
        ceiling("STAFF", 1, 79, 0, 80, 0, 81, 1, 83, 1, 84, 2, 86, 3, 88, 3, 89, 4);
        ceiling("ON SIGHT", 3, 59, 0, 60, 0, 61, 1, 63, 1, 64, 2, 65, 2, 66, 3, 67, 3, 69, 4);
        ceiling("FULL", 2, 99, 0, 100, 0, 101, 1, 103, 1, 104, 2, 105, 2, 106, 3, 107, 3, 108, 3, 109, 4);
    }

    private static void ceiling(String what, int mode, int... topsAndGrades) {
        for (int i = 0; i < topsAndGrades.length; i += 2) {
            TrainGuard guard = mode == 2 || mode == 3
                    ? Rides.started(new TrainGuard(40, 40, 0),
                            Telegram.of(3, 0).authority(32767, 0, mode - 2).profile(0, 20))
                    : Rides.inMode(mode);
            int grade = topsAndGrades[i + 1];
            int command = guard.cycle(Rides.pulsesFor(topsAndGrades[i]));
            CHECK.due(what + ", TOP", topsAndGrades[i], guard.state(2));
            CHECK.due(what + ", TOP " + topsAndGrades[i], grade, guard.display(1));
            CHECK.due(what + ", the command at " + topsAndGrades[i], grade == 4 ? 2 : grade == 3 ? 1 : 0, command);
        }
    }

    /** The ceiling says one grade and a curve another: the greater one is the first that holds. */
    private static void theFirstThatHolds() {
        CHECK.sentence("THE GRADE OF DANGER of v, the first of these that holds");
        int[] tops = {100, 101, 104, 106, 109};
        int[] byCeiling = {0, 1, 2, 3, 4};
        for (int i = 0; i < tops.length; i++) {
            int top = tops[i];
            int[] reaches = {reach(top, 6, 3, 4, 0), reach(top, 6, 3, 2, 0), reach(top, 6, 3, 0, 0),
                reach(top, 12, 2, 0, 0)};
            for (int byCurve = 0; byCurve <= 4; byCurve++) {
                int way = byCurve == 0 ? reaches[0] + 20 : reaches[byCurve - 1] - 1;
                int end = placeFor(way, top);
                TrainGuard guard = Rides.started(new TrainGuard(12, 6, 0),
                        Telegram.of(3, 0).authority(end, 0, 0).profile(0, 20));
                CHECK.due("TOP " + top + " with a curve of grade " + byCurve, Math.max(byCeiling[i], byCurve),
                        Rides.at(guard, 10 * end - way, top).display(1));
            }
        }
    }

    /** The ceiling holds where the train is, the target ahead: the allowed speed is the less of both. */
    private static void ceilingAndCurveTogether() {
        CHECK.sentence("The ALLOWED speed is the greatest v of 0 .. MAX whose grade would be 0");
        int[] limits = {18, 19, 20, 21};
        for (int limit : limits) {
            TrainGuard guard = Rides.started(new TrainGuard(12, 6, 0),
                    Telegram.of(3, 0).authority(171, 0, 0).profile(0, limit));
            CHECK.due("a ceiling of " + 5 * limit + " and END 1710", Math.min(5 * limit, byService(6, 1710)),
                    guard.display(0));
        }
    }

    private static int byService(int b, int way) {
        int allowed = 0;
        for (int v = 0; v <= 600; v++) {
            allowed = reach(v, b, 3, 4, 0) <= way ? v : allowed;
        }
        return allowed;
    }

    private static void stopped() {
        CHECK.sentence("In TRIP and FAILED it is 4.");
        CHECK.due("TRIP at rest", 4, Rides.tripped().display(1));
        CHECK.due("FAILED at rest", 4, Rides.failed().display(1));
        CHECK.due("TRIP, allowed", 0, Rides.tripped().display(0));
        CHECK.due("FAILED, allowed", 0, Rides.failed().display(0));
        TrainGuard released = Rides.tripped();
        released.driver(2);
        CHECK.due("POST TRIP at rest", 0, released.display(1));
    }

    private static void allowedSpeeds() {
        CHECK.sentence("The ALLOWED speed is the greatest v of 0 .. MAX whose grade would be 0");
        int[] services = {2, 6, 40};
        for (int service : services) {
            for (int end = 0; end <= 400; end++) {
                CHECK.due("service " + service + ", END " + 10 * end, byService(service, 10 * end),
                        Rides.full(40, service, 0, end, 0).display(0));
            }
        }
        for (int high = 2; high <= 60; high++) {
            TrainGuard guard = Rides.full(40, 6, 0, 100, 0);
            Rides.highTo(guard, high);
            CHECK.due("HIGH " + high + ", END 1000", byService(6, 1000 - high), guard.display(0));
        }
        TrainGuard moving = Rides.full(12, 6, 0, 300, 0);
        int before = moving.display(0);
        moving.cycle(0);
        CHECK.due("TOP is nothing to it", before, moving.display(0));
    }

    private static void allowedAtMostMax() {
        CHECK.sentence("v of 0 .. MAX");
        int[] ends = {byServiceEnd(599), byServiceEnd(600) - 1, byServiceEnd(600), 32767};
        for (int end : ends) {
            CHECK.due("END " + 10 * end, Math.min(600, byService(40, 10 * end)),
                    Rides.full(40, 40, 0, end, 0).display(0));
        }
        CHECK.due("a step of 600 ahead: 594 + 6 is not above it", 594, beforeStep(40, 40, 1, 120, false).display(0));
        CHECK.due("a step of 635 counts as 600", 594, beforeStep(40, 40, 1, 127, false).display(0));
        CHECK.due("a step of 595 ahead", 589, beforeStep(40, 40, 1, 119, false).display(0));
    }

    /** The first END, in tens, that allows v with service 40. */
    private static int byServiceEnd(int v) {
        return (reach(v, 40, 3, 4, 0) + 9) / 10;
    }

    private static void noneAllowed() {
        CHECK.sentence("0 if there is none.");
        TrainGuard at = Rides.at(Rides.full(40, 6, 0, 5, 0), 38, 0);
        CHECK.due("12 at rest up to END", 0, at.display(0));
        CHECK.due("whose grade is 0", 0, at.display(1));
        TrainGuard over = Rides.at(Rides.full(40, 6, 0, 5, 0), 39, 0);
        CHECK.due("no speed has the grade 0", 0, over.display(0));
        CHECK.due("not even 0", 3, over.display(1));
        TrainGuard one = Rides.at(Rides.full(40, 6, 0, 5, 0), 50 - 7 - 12 - 1, 0);
        CHECK.due("7 + 12 + 1 up to END", 1, one.display(0));
        TrainGuard less = Rides.at(Rides.full(40, 6, 0, 5, 0), 50 - 7 - 12, 0);
        CHECK.due("7 + 12 + 1 up to END + 1", 0, less.display(0));
    }
}
