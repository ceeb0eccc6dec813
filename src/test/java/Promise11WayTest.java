/** Promise 11: the braking way, against the document's own steps. */
public final class Promise11WayTest {
    private static final Check CHECK = new Check("Promise11WayTest");

    public static void main(String[] args) {
        TrainGuard guard = new TrainGuard(20, 10, 0);
        CHECK.due("10 to 0 by 4: 6 + 2 + 0", 8, guard.way(10, 0, 4));
        CHECK.due("10 to 3 by 4: 6 + 2", 8, guard.way(10, 3, 4));
        CHECK.due("10 to 6 by 4: 6", 6, guard.way(10, 6, 4));
        CHECK.due("10 to 9 by 40: 0", 0, guard.way(10, 9, 40));
        CHECK.due("the longest", 179700, guard.way(600, 0, 1));
        for (int b = 1; b <= 40; b++) {
            for (int w = 0; w <= 600; w += w < 90 ? 1 : 17) {
                guard = new TrainGuard(20, 10, 0);
                for (int u = 0; u <= 600; u += u < 90 ? 1 : 17) {
                    CHECK.due("way(" + w + ", " + u + ", " + b + ")",
                            PlainModel.brakingWay(w, u, b), guard.way(w, u, b));
                }
            }
        }
        guard = new TrainGuard(20, 10, 0);
        wrongArguments(guard);
        CHECK.due("no note", -1, guard.note(0));
        CHECK.end();
    }

    private static void wrongArguments(TrainGuard guard) {
        int[] speeds = {-1, 601, Integer.MIN_VALUE, Integer.MAX_VALUE};
        for (int wrong : speeds) {
            CHECK.due("w " + wrong, -1, guard.way(wrong, 0, 1));
            CHECK.due("u " + wrong, -1, guard.way(0, wrong, 1));
        }
        int[] decelerations = {0, -1, 41, Integer.MIN_VALUE, Integer.MAX_VALUE};
        for (int wrong : decelerations) {
            CHECK.due("b " + wrong, -1, guard.way(600, 0, wrong));
            CHECK.due("b " + wrong + " where there is no way", -1, guard.way(0, 0, wrong));
        }
        CHECK.due("the greatest of all", 0, guard.way(600, 600, 40));
        CHECK.due("b 40", PlainModel.brakingWay(600, 0, 40), guard.way(600, 0, 40));
    }
}
