/** Promise 2: bits come behind those that there are, the highest first, up to 600. */
public final class Promise02BitsTest {
    private static final Check CHECK = new Check("Promise02BitsTest");

    public static void main(String[] args) {
        counts();
        atMostSixHundred();
        highestFirst();
        lowestBitsAlone();
        CHECK.end();
    }

    private static void counts() {
        TrainGuard guard = new TrainGuard(10, 5, 100);
        int[] wrong = {0, -1, 31, 32, 64, Integer.MIN_VALUE, Integer.MAX_VALUE};
        for (int count : wrong) {
            CHECK.due("bits(1, " + count + ")", false, guard.bits(1, count));
            CHECK.due("bits after that", 0, guard.state(6));
        }
        int all = 0;
        for (int count = 1; count <= 30; count++) {
            CHECK.due("bits(-1, " + count + ")", true, guard.bits(-1, count));
            all += count;
            CHECK.due("bits after that", all, guard.state(6));
        }
        CHECK.due("no note", -1, guard.note(0));
    }

    private static void atMostSixHundred() {
        TrainGuard guard = new TrainGuard(10, 5, 100);
        for (int i = 0; i < 19; i++) {
            guard.bits(0, 30);
        }
        CHECK.due("20 bits behind 570", true, guard.bits(0, 20));
        String before = Check.picture(guard);
        CHECK.due("11 bits behind 590", false, guard.bits(0, 11));
        CHECK.due("nothing changed", true, before.equals(Check.picture(guard)));
        CHECK.due("10 bits behind 590", true, guard.bits(0, 10));
        CHECK.due("600 bits", 600, guard.state(6));
        CHECK.due("1 bit behind 600", false, guard.bits(0, 1));
        CHECK.due("still 600 bits", 600, guard.state(6));
        guard.message();
        CHECK.due("room again after a message", true, guard.bits(0, 30));
    }

    private static void highestFirst() {
        TrainGuard guard = new TrainGuard(10, 5, 100);
        String bits = Telegram.stop(5).bits();
        for (int i = 0; i < bits.length(); i++) {
            CHECK.due("one bit", true, guard.bits(bits.charAt(i) - '0', 1));
        }
        CHECK.due("a message of single bits", 0, guard.message());
        CHECK.due("kind 16 in two halves", true, guard.bits(1, 4) && guard.bits(0, 4));
        CHECK.due("34 bits and time 6", true, guard.bits(34, 10) && guard.bits(6, 16));
        CHECK.due("a message of four parts", 0, guard.message());
    }

    private static void lowestBitsAlone() {
        TrainGuard guard = new TrainGuard(10, 5, 100);
        CHECK.due("kind 16", true, guard.bits(0xABCDEF00 | 16, 8));
        CHECK.due("34 bits", true, guard.bits(-1024 | 34, 10));
        CHECK.due("time 0", true, guard.bits(0x7FFF0000, 16));
        CHECK.due("higher bits do not count", 0, guard.message());
        CHECK.due("tripped by it", 4, guard.mode());
    }
}
