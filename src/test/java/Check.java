/** Counts the answers that are not the ones that are due, and tells them. */
final class Check {
    private final String name;
    private String words = "";
    private int sentences;
    private int seenBefore;
    private int seen;
    private int wrong;

    Check(String name) {
        this.name = name;
    }

    /** The words of the document that the answers from here on are about; they are told with each wrong one. */
    void sentence(String quoted) {
        everySentenceHasAnswers();
        words = quoted;
        sentences++;
        seenBefore = seen;
    }

    private void everySentenceHasAnswers() {
        if (sentences > 0 && seen == seenBefore) {
            wrong++;
            System.out.println(name + ": nothing was asked about \"" + words + "\"");
        }
    }

    void due(String what, long want, long got) {
        seen++;
        if (got != want) {
            wrong++;
            String about = words.isEmpty() ? "" : " (\"" + words + "\")";
            System.out.println(name + ": " + what + " answered " + got + ", due is " + want + about);
        }
    }

    void due(String what, boolean want, boolean got) {
        due(what, want ? 1 : 0, got ? 1 : 0);
    }

    /** The record's latest notes, the oldest of them first, as they would be read. */
    void dueNotes(String what, TrainGuard guard, int... want) {
        for (int i = 0; i < want.length; i++) {
            due(what + ", note " + i + " of " + want.length, want[i], guard.note(want.length - 1 - i));
        }
    }

    /** The whole record, the oldest note first. */
    void dueRecord(String what, TrainGuard guard, int... want) {
        dueNotes(what, guard, want);
        due(what + ", no more notes", -1, guard.note(want.length));
    }

    /** All that a call which changes nothing must leave as it was. */
    static String picture(TrainGuard guard) {
        StringBuilder all = new StringBuilder(scene(guard));
        all.append(' ').append(guard.state(6));
        for (int i = 0; i < 16; i++) {
            all.append(' ').append(guard.note(i));
        }
        return all.toString();
    }

    /** All that a message with a fault must leave as it was: everything that is seen but the record and the bits. */
    static String scene(TrainGuard guard) {
        StringBuilder all = new StringBuilder();
        all.append(guard.mode());
        for (int i = 0; i < 6; i++) {
            all.append(' ').append(guard.state(i));
        }
        for (int i = 0; i < 4; i++) {
            all.append(' ').append(guard.display(i));
        }
        for (int i = 0; i < 7; i++) {
            all.append(' ').append(guard.marks(i));
        }
        for (int place = 0; place <= 300; place += 50) {
            all.append(' ').append(guard.limit(place));
        }
        return all.toString();
    }

    void end() {
        everySentenceHasAnswers();
        String about = sentences == 0 ? "" : sentences + " sentences, ";
        System.out.println(name + ": " + about + seen + " answers, " + wrong + " wrong");
        if (wrong != 0 || seen == 0) {
            System.exit(1);
        }
    }
}
