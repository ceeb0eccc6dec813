import java.util.Random;

/** Runs of calls, most of them sensible and some spoilt, on the program and on the plain model at once. */
public final class ModelTest {
    private static final int RUNS = 6000;
    /** A run stops so early that its last step ends within the 512 calls that an object is used for. */
    private static final int ENOUGH_CALLS = 380;

    private final Check check = new Check("ModelTest");
    private final int[] faults = new int[13];
    private final int[] modes = new int[7];
    private final int[] dangers = new int[5];
    private final int[] commands = new int[3];
    private final int[] noteKinds = new int[8];
    private Random dice;
    private TrainGuard guard;
    private PlainModel model;
    private int run;
    private int calls;
    private int time;
    private int speed;
    private boolean restricting;

    public static void main(String[] args) {
        ModelTest test = new ModelTest();
        for (test.run = 1; test.run <= RUNS; test.run++) {
            test.oneRun();
        }
        test.everythingWasMet();
        test.check.end();
    }

    private void oneRun() {
        dice = new Random(run);
        int emergency = dice.nextInt(50) - 3;
        int service = dice.nextInt(dice.nextBoolean() ? 50 : 12) - 3;
        int length = dice.nextInt(10) == 0 ? dice.nextInt(6000) - 500 : dice.nextInt(400);
        guard = new TrainGuard(emergency, service, length);
        model = new PlainModel(emergency, service, length);
        time = dice.nextInt(3);
        speed = 0;
        restricting = dice.nextInt(4) == 0;
        calls = 0;
        while (calls < ENOUGH_CALLS) {
            step();
            look();
        }
        for (int k = -1; k <= 16; k++) {
            due("note(" + k + ")", model.note(k), guard.note(k));
        }
    }

    private void due(String what, int want, int got) {
        calls++;
        check.due("run " + run + ": " + what, want, got);
    }

    private static int asInt(boolean answer) {
        return answer ? 1 : 0;
    }

    private void step() {
        int choice = dice.nextInt(100);
        if (choice < 45) {
            cycle(pulses());
        } else if (choice < 70) {
            send(spoilt(telegram()));
        } else if (choice < 82) {
            int number = markNumber();
            due("mark(" + number + ")", asInt(model.mark(number)), asInt(guard.mark(number)));
        } else if (choice < 99) {
            int what = deed();
            due("driver(" + what + ")", asInt(model.driver(what)), asInt(guard.driver(what)));
        } else {
            strayBits();
        }
        modes[model.mode]++;
        commands[model.command]++;
        dangers[model.grade(model.top)]++;
        for (int note : model.record) {
            noteKinds[note / 100 % 100]++;
        }
    }

    private void cycle(int pulses) {
        due("cycle(" + pulses + ")", model.cycle(pulses), guard.cycle(pulses));
    }

    private int pulses() {
        int choice = dice.nextInt(200);
        if (choice == 0) {
            return new int[] {-1, 501, 500, Integer.MIN_VALUE, Integer.MAX_VALUE}[dice.nextInt(5)];
        }
        if (choice < 10 || model.mode == 4 && choice < 150 || model.mode == 5 || model.mode == 0 && choice < 150) {
            speed = 0;
        } else if (choice < 60) {
            speed = Math.min(500, Math.max(0, model.allowed() * 15 / 16 + dice.nextInt(14) - 6));
        } else if (choice < 150) {
            speed = Math.min(500, speed + dice.nextInt(30));
        } else {
            speed = Math.max(0, speed - dice.nextInt(40));
        }
        return speed;
    }

    private int markNumber() {
        if (dice.nextInt(4) != 0) {
            for (PlainModel.Mark mark : model.marks) {
                if (!mark.passed && dice.nextInt(8) != 0) {
                    return mark.number;
                }
            }
        }
        return dice.nextInt(258) - 1;
    }

    private int deed() {
        if (dice.nextInt(12) == 0) {
            return dice.nextInt(6) - 2;
        }
        return model.mode == 0 || model.mode == 5 ? 0 : model.mode == 4 ? 2 : model.asked ? 1 : dice.nextInt(3);
    }

    private void strayBits() {
        int value = dice.nextInt();
        int count = dice.nextInt(34) - 1;
        due("bits(" + value + ", " + count + ")", asInt(model.bits(value, count)), asInt(guard.bits(value, count)));
        if (dice.nextBoolean()) {
            readBoth();
        }
    }

    private int place(int around, int spread) {
        return Math.max(0, Math.min(32767, (around + dice.nextInt(2 * spread) - spread / 2) / 10));
    }

    private int nextTime() {
        if (dice.nextInt(40) == 0) {
            return Math.max(0, time - dice.nextInt(2));
        }
        time += 1 + dice.nextInt(3);
        return time;
    }

    private Telegram telegram() {
        int choice = dice.nextInt(20);
        if (choice == 0) {
            return Telegram.stop(nextTime());
        }
        if (choice < 4) {
            int back = dice.nextInt(dice.nextBoolean() ? 60 : 900) - 20;
            return Telegram.shorten(nextTime(), Math.max(0, Math.min(32767, (model.end - back) / 10)));
        }
        int kind = choice < 13 ? 3 : 24;
        Telegram telegram = Telegram.of(kind, nextTime());
        if (kind == 3 == (dice.nextInt(30) != 0)) {
            telegram.authority(place(model.high + 1200, 1500), dice.nextInt(3) * dice.nextInt(200), code());
        }
        int[] order = {5, 21, 27, 65, 66};
        for (int i = 0; i < order.length; i++) {
            int other = dice.nextInt(order.length);
            int id = order[i];
            order[i] = order[other];
            order[other] = id;
        }
        for (int id : order) {
            boolean wanted = id == 27 && model.profile.isEmpty() || id == 65 && restricting;
            if (wanted || dice.nextInt(5) < 2 && !(id == 66 && restricting && dice.nextInt(3) != 0)) {
                packet(telegram, id);
            }
        }
        return telegram;
    }

    private int code() {
        return dice.nextInt(40) == 0 ? 2 + dice.nextInt(2) : dice.nextInt(3) == 0 ? 1 : 0;
    }

    private void packet(Telegram telegram, int id) {
        if (id == 65) {
            int reach = dice.nextInt(40) == 0 ? 0 : 1 + dice.nextInt(40);
            telegram.restriction(dice.nextInt(12), place(model.high, 800), reach, limit());
        } else if (id == 66) {
            telegram.ended(dice.nextInt(16));
        } else if (id == 5) {
            telegram.marks(list(3, 150));
        } else if (id == 21) {
            telegram.grades(list(2, 700));
        } else {
            telegram.profile(list(1, 700));
        }
    }

    private int limit() {
        return dice.nextInt(10) == 0 ? dice.nextInt(128) : 8 + dice.nextInt(40);
    }

    /** Entries of a list packet: kind 1 a step with a limit, 2 a step with a fall, 3 a mark. */
    private int[] list(int kind, int spread) {
        int n = kind == 1 && dice.nextInt(40) != 0 ? 1 + dice.nextInt(7) : dice.nextInt(kind == 3 ? 5 : 8);
        int width = kind == 3 ? 3 : 2;
        int[] all = new int[n * width];
        int last = place(kind == 3 ? model.high : model.low - model.length, spread);
        for (int i = 0; i < n; i++) {
            all[i * width] = last;
            all[i * width + 1] = kind == 1 ? limit() : kind == 2 ? fall() : dice.nextInt(256);
            if (kind == 3) {
                all[i * width + 2] = dice.nextInt(64);
            }
            last = Math.min(32767, last + (dice.nextInt(60) == 0 ? 0 : 1 + dice.nextInt(spread / 10)));
        }
        return all;
    }

    private int fall() {
        return dice.nextInt(6) == 0 ? dice.nextInt(64) : dice.nextInt(12);
    }

    private String spoilt(Telegram telegram) {
        if (dice.nextInt(30) == 0) {
            telegram.lengthOffBy(dice.nextInt(5) - 2);
        }
        if (dice.nextInt(30) == 0) {
            telegram.packet(dice.nextBoolean() ? 66 : dice.nextInt(80), dice.nextInt(7) - 3, dice.nextInt(256), 8);
        }
        if (dice.nextInt(20) == 0) {
            telegram.cutTo(dice.nextInt(telegram.size()));
        }
        StringBuilder bits = new StringBuilder(telegram.bits());
        if (dice.nextInt(10) == 0) {
            int at = dice.nextInt(bits.length());
            bits.setCharAt(at, bits.charAt(at) == '1' ? '0' : '1');
        }
        if (dice.nextInt(60) == 0) {
            bits.setLength(dice.nextInt(bits.length()));
        }
        return bits.toString();
    }

    private void send(String bits) {
        int at = 0;
        while (at < bits.length()) {
            int count = Math.min(1 + dice.nextInt(30), bits.length() - at);
            int value = Integer.parseInt(bits.substring(at, at + count), 2) | dice.nextInt() << count;
            due("bits(" + value + ", " + count + ")", asInt(model.bits(value, count)), asInt(guard.bits(value, count)));
            at += count;
        }
        due("state(6)", model.state(6), guard.state(6));
        readBoth();
    }

    private void readBoth() {
        int want = model.message();
        faults[want]++;
        due("message()", want, guard.message());
    }

    private void look() {
        due("mode()", model.mode, guard.mode());
        due("display(1)", model.display(1), guard.display(1));
        int what = dice.nextInt(10) - 1;
        due("state(" + what + ")", model.state(what), guard.state(what));
        int shown = dice.nextInt(6) - 1;
        due("display(" + shown + ")", model.display(shown), guard.display(shown));
        int place = dice.nextInt(8) == 0 ? dice.nextInt() : model.low + dice.nextInt(2000) - 600;
        due("limit(" + place + ")", model.limit(place), guard.limit(place));
        int mark = dice.nextInt(9) - 1;
        due("marks(" + mark + ")", model.marks(mark), guard.marks(mark));
        for (int k = 0; k < 2; k++) {
            due("note(" + k + ")", model.note(k), guard.note(k));
        }
    }

    /** Runs that never came to some fault, mode or grade would prove nothing about it. */
    private void everythingWasMet() {
        met("fault", faults, 0);
        met("mode", modes, 0);
        met("grade of danger", dangers, 0);
        met("command", commands, 0);
        met("kind of note", noteKinds, 1);
    }

    private void met(String what, int[] counts, int first) {
        StringBuilder line = new StringBuilder("ModelTest: times that each " + what + " was met:");
        for (int i = first; i < counts.length; i++) {
            check.due(what + " " + i + " was met", true, counts[i] > 0);
            line.append(' ').append(counts[i]);
        }
        System.out.println(line);
    }
}
