/** The places at which steps and restrictions begin and end to hold, and the term CEILING. */
public final class EdgesOfCeilingTest {
    private static final Check CHECK = new Check("EdgesOfCeilingTest");

    public static void main(String[] args) {
        steps();
        restrictions();
        head();
        tail();
        betweenTailAndHead();
        onSight();
        otherModes();
        CHECK.end();
    }

    private static void limits(String what, TrainGuard guard, int... placesAndLimits) {
        for (int i = 0; i < placesAndLimits.length; i += 2) {
            CHECK.due(what + ", limit(" + placesAndLimits[i] + ")", placesAndLimits[i + 1],
                    guard.limit(placesAndLimits[i]));
        }
    }

    private static TrainGuard told(Telegram telegram) {
        TrainGuard guard = new TrainGuard(20, 10, 100);
        CHECK.due("the message", 0, telegram.to(guard));
        return guard;
    }

    private static void steps() {
        CHECK.sentence("STEPS, each with a place and a limit, which holds from that place to the one of the next step"
                + " (not included), the last one for ever; before the first step there is no limit (MAX).");
        limits("three steps", told(Telegram.of(24, 1).profile(10, 30, 20, 10, 30, 40)), 0, 600, 99, 600, 100, 150,
                199, 150, 200, 50, 299, 50, 300, 200, 301, 200, 1000000, 200, Integer.MAX_VALUE, 200);
        limits("close together", told(Telegram.of(24, 1).profile(0, 1, 1, 2, 2, 3)), 0, 5, 9, 5, 10, 10, 19, 10,
                20, 15, 29, 15, 30, 15);
        limits("at the last place", told(Telegram.of(24, 1).profile(32766, 5, 32767, 6)), 327659, 600, 327660, 25,
                327669, 25, 327670, 30, Integer.MAX_VALUE, 30);
        limits("no step", new TrainGuard(20, 10, 100), 0, 600, Integer.MAX_VALUE, 600);
        limits("all seven", told(Telegram.of(24, 1).profile(1, 1, 2, 2, 3, 3, 4, 4, 5, 5, 6, 6, 7, 7)), 9, 600, 10, 5,
                19, 5, 20, 10, 29, 10, 30, 15, 39, 15, 40, 20, 49, 20, 50, 25, 59, 25, 60, 30, 69, 30, 70, 35, 79, 35);
    }

    private static void restrictions() {
        CHECK.sentence("RESTRICTIONS .. each with a number, a place, a length and a limit, which holds from the place"
                + " to place + length (not included).");
        limits("from 50, length 10", told(Telegram.of(24, 1).restriction(1, 5, 1, 7)), 0, 600, 49, 600, 50, 35,
                59, 35, 60, 600);
        limits("from 0", told(Telegram.of(24, 1).restriction(1, 0, 2, 7)), -1, 600, 0, 35, 19, 35, 20, 600);
        limits("the farthest and longest", told(Telegram.of(24, 1).restriction(1, 32767, 32767, 7)), 327669, 600,
                327670, 35, 655339, 35, 655340, 600, Integer.MAX_VALUE, 600);
        TrainGuard two = told(Telegram.of(24, 1).profile(6, 9).restriction(1, 5, 2, 8));
        CHECK.due("another one", 0, Telegram.of(24, 2).restriction(2, 7, 1, 10).to(two));
        limits("a restriction over a step, another above one", two, 49, 600, 50, 40, 59, 40, 60, 40, 69, 40, 70, 45,
                79, 45, 80, 45);
    }

    private static TrainGuard riding(int length, Telegram telegram) {
        return Rides.started(new TrainGuard(20, 10, length), telegram);
    }

    private static Telegram farAuthority() {
        return Telegram.of(3, 0).authority(32767, 0, 0);
    }

    private static void head() {
        CHECK.sentence("CEILING: in FULL the least of all limits (of steps and restrictions) that hold at some place"
                + " from .. to HIGH");
        for (int high = 98; high <= 101; high++) {
            int want = high < 100 ? 300 : 40;
            TrainGuard step = riding(30, farAuthority().profile(0, 60, 10, 8));
            Rides.highTo(step, high);
            CHECK.due("a step at 100, HIGH " + high, want, step.display(3));
            TrainGuard restricted = riding(30, farAuthority().profile(0, 60).restriction(1, 10, 1, 8));
            Rides.highTo(restricted, high);
            CHECK.due("a restriction at 100, HIGH " + high, want, restricted.display(3));
            TrainGuard first = riding(30, farAuthority().profile(10, 8));
            Rides.highTo(first, high);
            CHECK.due("the first step at 100, HIGH " + high, high < 100 ? 600 : 40, first.display(3));
        }
        CHECK.sentence("(MAX if there is none)");
        CHECK.due("no step yet", 600, riding(4000, farAuthority().profile(1, 8)).display(3));
        CHECK.due("a step at HIGH 0", 40, riding(4000, farAuthority().profile(0, 8)).display(3));
    }

    private static void tail() {
        CHECK.sentence("that hold at some place from LOW - LENGTH");
        int[] lengths = {0, 1, 37, 4000};
        for (int length : lengths) {
            for (int back = 98; back <= 101; back++) {
                int want = back < 100 ? 40 : 300;
                TrainGuard step = riding(length, farAuthority().profile(0, 8, 10, 60));
                Rides.lowTo(step, 1, back + length);
                CHECK.due("a step up to 100, LOW - LENGTH " + back, want, step.display(3));
                TrainGuard restricted = riding(length, farAuthority().profile(0, 60).restriction(1, 9, 1, 8));
                Rides.lowTo(restricted, 1, back + length);
                CHECK.due("a restriction up to 100, LOW - LENGTH " + back, want, restricted.display(3));
            }
        }
    }

    private static void betweenTailAndHead() {
        CHECK.sentence("the least of all limits");
        TrainGuard guard = riding(100, farAuthority().profile(0, 60, 5, 50, 6, 60).restriction(1, 8, 1, 40));
        Rides.lowTo(guard, 1, 120);
        CHECK.due("all below the train", 200, guard.display(3));
        CHECK.due("the end of the restriction", 0, Telegram.of(24, 2).ended(1).to(guard));
        CHECK.due("the step of 250", 250, guard.display(3));
        Rides.lowTo(guard, 3, 159);
        CHECK.due("its last place", 250, guard.display(3));
        Rides.lowTo(guard, 4, 160);
        CHECK.due("behind the train", 300, guard.display(3));
        CHECK.due("limit 0 is a limit", 0, Telegram.of(24, 5).restriction(1, 10, 1, 0).to(guard));
        CHECK.due("the ceiling", 0, guard.display(3));
    }

    private static void onSight() {
        CHECK.sentence("in ON SIGHT that or 60, if that is less");
        int[] numbers = {0, 11, 12, 13, 127};
        int[] ceilings = {0, 55, 60, 60, 60};
        for (int i = 0; i < numbers.length; i++) {
            TrainGuard guard = riding(0, Telegram.of(3, 0).authority(32767, 0, 1).profile(0, numbers[i]));
            CHECK.due("a step of " + 5 * numbers[i], ceilings[i], guard.display(3));
            TrainGuard restricted = riding(0, Telegram.of(3, 0).authority(32767, 0, 1).profile(5, 1)
                    .restriction(1, 0, 1, numbers[i]));
            CHECK.due("a restriction of " + 5 * numbers[i], ceilings[i], restricted.display(3));
        }
        CHECK.due("no limit", 60, riding(0, Telegram.of(3, 0).authority(32767, 0, 1).profile(5, 1)).display(3));
    }

    private static void otherModes() {
        CHECK.sentence("in STAFF 80; in STAND BY and POST TRIP 0.");
        int[] modes = {0, 1, 5};
        for (int mode : modes) {
            TrainGuard guard = Rides.inMode(mode);
            int want = mode == 1 ? 80 : 0;
            CHECK.due("mode " + mode + " without limits", want, guard.display(3));
            CHECK.due("a step", 0, Telegram.of(24, 5).profile(0, 2).restriction(1, 0, 9, 1).to(guard));
            CHECK.due("mode " + mode + " with limits", want, guard.display(3));
            CHECK.due("allowed", want, guard.display(0));
        }
        CHECK.sentence("3: the ceiling; NONE in TRIP and FAILED.");
        CHECK.due("TRIP", -1, Rides.tripped().display(3));
        CHECK.due("FAILED", -1, Rides.failed().display(3));
    }
}
