/** Counts the answers that are not the ones that are due, and tells them. */
final class Check {
    private final String name;
    private int seen;
    private int wrong;

    Check(String name) {
        this.name = name;
    }

    void due(String what, long want, long got) {
        seen++;
        if (got != want) {
            wrong++;
            System.out.println(name + ": " + what + " answered " + got + ", due is " + want);
        }
    }

    void due(String what, boolean want, boolean got) {
        due(what, want ? 1 : 0, got ? 1 : 0);
    }

    /** The record's latest notes, the oldest of them first, as they would be read. */
    void dueNotes(String what, TrainGuard guard, int... want) {
        for (int i = 0; i < want.length; i++) {
            due(what + ", note " + i + " of " + want.length, want[i], guard.note(want.length - 1 - i));
        }
    }

    /** All that a call which changes nothing must leave as it was. */
    static String picture(TrainGuard guard) {
        StringBuilder all = new StringBuilder();
        all.append(guard.mode());
        for (int i = 0; i < 7; i++) {
            all.append(' ').append(guard.state(i));
        }
        for (int i = 0; i < 4; i++) {
            all.append(' ').append(guard.display(i));
        }
        for (int i = 0; i < 7; i++) {
            all.append(' ').append(guard.marks(i));
        }
        for (int i = 0; i < 16; i++) {
            all.append(' ').append(guard.note(i));
        }
        return all.toString();
    }

    void end() {
        System.out.println(name + ": " + seen + " answers, " + wrong + " wrong");
        if (wrong != 0 || seen == 0) {
            System.exit(1);
        }
    }
}
