import java.util.ArrayList;
import java.util.HashMap;
import java.util.HashSet;
import java.util.LinkedList;
import java.util.List;
import java.util.Map;
import java.util.Set;
import java.util.TreeMap;

/** The document, followed word by word without a thought for speed; shares no code with the program. */
final class PlainModel {
    record Restriction(int place, int length, int limit) {
    }

    static final class Mark {
        int place;
        int number;
        int accuracy;
        boolean passed;
    }

    record Target(int place, int speed) {
    }

    static final class Fault extends RuntimeException {
        private static final long serialVersionUID = 1L;
        final int number;

        Fault(int number) {
            super(null, null, false, false);
            this.number = number;
        }
    }

    static final class Content {
        int kind;
        int time;
        int place;
        Set<Integer> ids = new HashSet<>();
        List<Mark> marks = new ArrayList<>();
        int end;
        int overlap;
        int mode;
        TreeMap<Integer, Integer> grades = new TreeMap<>();
        TreeMap<Integer, Integer> profile = new TreeMap<>();
        int number;
        Restriction restriction;
        int ended;
    }

    final int e;
    final int s;
    final int length;
    int low;
    int high;
    int top;
    int mode;
    boolean authority;
    int end;
    int overlap;
    int authorityMode;
    TreeMap<Integer, Integer> profile = new TreeMap<>();
    TreeMap<Integer, Integer> grades = new TreeMap<>();
    Map<Integer, Restriction> restrictions = new HashMap<>();
    List<Mark> marks = new ArrayList<>();
    boolean asked;
    int askedAt;
    int cycle;
    int latest = -1;
    int staffEnd;
    boolean emergencyBrake;
    boolean serviceBrake;
    int command;
    String bits = "";
    int at;
    LinkedList<Integer> record = new LinkedList<>();

    PlainModel(int emergency, int service, int length) {
        this.e = emergency < 4 ? 4 : emergency > 40 ? 40 : emergency;
        this.s = service < 2 ? 2 : service > e ? e : service;
        this.length = length < 0 ? 0 : length > 4000 ? 4000 : length;
    }

    boolean bits(int value, int count) {
        if (count < 1 || count > 30 || bits.length() + count > 600) {
            return false;
        }
        String all = "0".repeat(32) + Integer.toBinaryString(value);
        bits += all.substring(all.length() - count);
        return true;
    }

    int message() {
        Content m = new Content();
        try {
            read(m);
            judge(m);
        } catch (Fault fault) {
            bits = "";
            note(4, fault.number);
            return fault.number;
        }
        bits = "";
        note(3, m.kind);
        take(m);
        return 0;
    }

    private int number(int count) {
        if (bits.length() - at < count) {
            throw new Fault(2);
        }
        int value = Integer.parseInt(bits.substring(at, at + count), 2);
        at += count;
        return value;
    }

    private static void must(boolean holds, int fault) {
        if (!holds) {
            throw new Fault(fault);
        }
    }

    private void read(Content m) {
        at = 0;
        m.kind = number(8);
        must(Set.of(3, 9, 16, 24).contains(m.kind), 1);
        must(number(10) == bits.length(), 2);
        m.time = number(16);
        must(m.time > latest, 3);
        if (m.kind == 9) {
            m.place = 10 * number(15);
        }
        if (m.kind == 9 || m.kind == 16) {
            must(at == bits.length(), 2);
            return;
        }
        while (at < bits.length()) {
            int start = at;
            int id = number(8);
            must(Set.of(5, 15, 21, 27, 65, 66).contains(id), 4);
            must(m.ids.add(id), 7);
            int size = number(13);
            must(size >= 21, 2);
            must(size <= bits.length() - start, 2);
            readNumbers(m, id);
            must(at == start + size, 5);
        }
    }

    private void readNumbers(Content m, int id) {
        if (id == 15) {
            m.end = 10 * number(15);
            m.overlap = number(10);
            int code = number(2);
            must(code == 0 || code == 1, 6);
            m.mode = code == 0 ? 2 : 3;
        } else if (id == 65) {
            m.number = number(8);
            int place = 10 * number(15);
            int reach = 10 * number(15);
            must(reach != 0, 6);
            m.restriction = new Restriction(place, reach, Math.min(600, 5 * number(7)));
        } else if (id == 66) {
            m.ended = number(8);
        } else {
            int n = number(3);
            must(id != 27 || n != 0, 6);
            int before = -1;
            for (int i = 0; i < n; i++) {
                int place = 10 * number(15);
                must(place > before, 6);
                before = place;
                if (id == 5) {
                    Mark mark = new Mark();
                    mark.place = place;
                    mark.number = number(8);
                    mark.accuracy = number(6);
                    m.marks.add(mark);
                } else if (id == 21) {
                    m.grades.put(place, number(6));
                } else {
                    m.profile.put(place, Math.min(600, 5 * number(7)));
                }
            }
        }
    }

    private void judge(Content m) {
        must(!(m.kind == 3 && !m.ids.contains(15)), 8);
        must(!(m.kind == 24 && m.ids.contains(15)), 8);
        must(mode != 6, 9);
        must(!(mode == 4 && m.kind != 16), 9);
        if (m.kind == 9) {
            must(authority, 10);
            must(m.place <= end, 11);
            if (mode == 2 || mode == 3) {
                int kept = end;
                end = m.place;
                int grade = grade(top);
                end = kept;
                must(grade < 3, 11);
            }
        }
        if (m.ids.contains(65)) {
            Map<Integer, Restriction> rest = new HashMap<>(restrictions);
            if (m.ids.contains(66)) {
                rest.remove(m.ended);
            }
            must(!(rest.size() == 6 && !rest.containsKey(m.number)), 12);
        }
    }

    private void take(Content m) {
        latest = m.time;
        if (m.kind == 16) {
            trip();
            return;
        }
        if (m.kind == 9) {
            end = m.place;
            return;
        }
        if (m.ids.contains(66)) {
            restrictions.remove(m.ended);
        }
        if (m.ids.contains(65)) {
            restrictions.put(m.number, m.restriction);
        }
        if (m.ids.contains(15)) {
            authority = true;
            end = m.end;
            overlap = m.overlap;
            authorityMode = m.mode;
        }
        if (m.ids.contains(21)) {
            grades = m.grades;
        }
        if (m.ids.contains(27)) {
            profile = m.profile;
        }
        if (m.ids.contains(5)) {
            marks = m.marks;
            for (Mark mark : marks) {
                mark.passed = mark.place + mark.accuracy < low;
            }
        }
        if (m.kind == 3 && (mode == 1 || mode == 2 || mode == 3) && !profile.isEmpty()) {
            enter();
        }
    }

    private void enter() {
        int was = mode;
        become(authorityMode);
        if (authorityMode == 3 && was != 3) {
            asked = true;
            askedAt = cycle;
        }
        if (authorityMode == 2) {
            asked = false;
        }
    }

    private void become(int what) {
        if (mode != what) {
            mode = what;
            note(1, what);
        }
    }

    private void trip() {
        become(4);
        authority = false;
        profile = new TreeMap<>();
        grades = new TreeMap<>();
        marks = new ArrayList<>();
        asked = false;
    }

    private void note(int kind, int value) {
        record.addFirst(10000 * cycle + 100 * kind + value);
        if (record.size() > 16) {
            record.removeLast();
        }
    }

    boolean mark(int number) {
        Mark meant = null;
        for (Mark mark : marks) {
            if (meant == null && !mark.passed && mark.number == number) {
                meant = mark;
            }
        }
        if (meant == null) {
            return false;
        }
        boolean skipped = false;
        for (Mark mark : marks) {
            if (mark.place < meant.place && !mark.passed) {
                skipped = true;
                mark.passed = true;
            }
        }
        meant.passed = true;
        note(5, number % 100);
        int from = meant.place - meant.accuracy;
        int to = meant.place + meant.accuracy;
        if (skipped || high < from || low > to) {
            note(6, 0);
            if (mode == 2 || mode == 3) {
                trip();
            }
            return true;
        }
        if (low < from) {
            low = from;
        }
        if (high > to) {
            high = to;
        }
        return true;
    }

    int cycle(int pulses) {
        cycle++;
        if (mode == 6 || pulses < 0 || pulses > 500) {
            become(6);
        } else {
            int err = pulses == 0 ? 0 : 1 + pulses / 16;
            high += pulses + err;
            low += pulses - err;
            top = pulses + err;
            watch();
        }
        int grade = grade(top);
        if (grade == 4) {
            emergencyBrake = true;
        } else if (emergencyBrake && pulses == 0 && grade < 4) {
            emergencyBrake = false;
        }
        if (grade == 3 || grade == 4) {
            serviceBrake = true;
        } else if (serviceBrake && (grade == 0 || pulses == 0 && grade < 3)) {
            serviceBrake = false;
        }
        boolean askedBrake = asked && cycle - askedAt >= 3;
        int now = emergencyBrake ? 2 : serviceBrake || askedBrake ? 1 : 0;
        if (now != command) {
            command = now;
            note(2, now);
        }
        return command;
    }

    private void watch() {
        if (mode == 2 || mode == 3) {
            boolean missed = false;
            for (Mark mark : marks) {
                if (!mark.passed && mark.place + mark.accuracy < low) {
                    mark.passed = true;
                    missed = true;
                }
            }
            if (missed) {
                note(6, 0);
                trip();
            } else if (low > end) {
                trip();
            }
        } else if (mode == 1 && low > staffEnd) {
            trip();
        }
    }

    boolean driver(int what) {
        if (what == 0 && (mode == 0 || mode == 5) && top == 0) {
            note(7, 0);
            if (authority && !profile.isEmpty()) {
                enter();
            } else {
                become(1);
                staffEnd = high + 3000;
            }
            return true;
        }
        if (what == 1 && asked) {
            note(7, 1);
            asked = false;
            return true;
        }
        if (what == 2 && mode == 4 && top == 0) {
            note(7, 2);
            become(5);
            return true;
        }
        return false;
    }

    int state(int what) {
        int[] all = {low, high, top, command, asked ? 1 : 0, cycle, bits.length()};
        return what >= 0 && what < all.length ? all[what] : -1;
    }

    int display(int what) {
        if (what == 0) {
            return allowed();
        }
        if (what == 1) {
            return grade(top);
        }
        if (what == 2) {
            return !authority ? -1 : end - high < 0 ? 0 : end - high;
        }
        if (what == 3) {
            return mode == 4 || mode == 6 ? -1 : ceiling();
        }
        return -1;
    }

    int limit(int place) {
        if (place < 0) {
            return 600;
        }
        return leastLimit(place, place);
    }

    int way(int w, int u, int b) {
        if (w < 0 || w > 600 || u < 0 || u > 600 || b < 1 || b > 40) {
            return -1;
        }
        return brakingWay(w, u, b);
    }

    int marks(int k) {
        if (k < 0 || k >= marks.size()) {
            return -1;
        }
        Mark mark = marks.get(k);
        return 1000 * mark.place + 4 * mark.number + (mark.passed ? 1 : 0);
    }

    int note(int k) {
        return k < 0 || k > 15 || k >= record.size() ? -1 : record.get(k);
    }

    static int brakingWay(int w, int u, int b) {
        if (w <= u) {
            return 0;
        }
        int less = w - b < 0 ? 0 : w - b;
        return less + brakingWay(less, u, b);
    }

    /** What holds at some place of the range: the value at its first place and those that begin behind it. */
    private static List<Integer> holding(TreeMap<Integer, Integer> steps, int from, int to) {
        List<Integer> all = new ArrayList<>();
        if (from > to) {
            return all;
        }
        Map.Entry<Integer, Integer> first = steps.floorEntry(from);
        if (first != null) {
            all.add(first.getValue());
        }
        all.addAll(steps.subMap(from, false, to, true).values());
        return all;
    }

    private int leastLimit(int from, int to) {
        int least = 600;
        for (int value : holding(profile, from, to)) {
            least = Math.min(least, value);
        }
        for (Restriction r : restrictions.values()) {
            if (Math.max(from, r.place()) <= Math.min(to, r.place() + r.length() - 1)) {
                least = Math.min(least, r.limit());
            }
        }
        return least;
    }

    int ceiling() {
        switch (mode) {
            case 1:
                return 80;
            case 2:
                return leastLimit(low - length, high);
            case 3:
                return Math.min(60, leastLimit(low - length, high));
            default:
                return 0;
        }
    }

    private List<Target> targets(boolean forEmergency) {
        List<Target> all = new ArrayList<>();
        if (mode != 2 && mode != 3) {
            return all;
        }
        for (Map.Entry<Integer, Integer> step : profile.entrySet()) {
            if (step.getKey() > high) {
                all.add(new Target(step.getKey(), step.getValue()));
            }
        }
        for (Restriction r : restrictions.values()) {
            if (r.place() > high) {
                all.add(new Target(r.place(), r.limit()));
            }
        }
        all.add(new Target(forEmergency ? end + overlap : end, 0));
        return all;
    }

    private int fall(Target target) {
        int greatest = 0;
        for (int value : holding(grades, low - length, target.place())) {
            greatest = Math.max(greatest, value);
        }
        return greatest;
    }

    private boolean over(int v, int d, int k, int j, boolean forEmergency) {
        for (Target target : targets(forEmergency)) {
            if (v + 2 * k > target.speed()) {
                int front = high;
                for (int i = 1; i <= k; i++) {
                    front += v + 2 * i;
                }
                front += j * v;
                int b = d - fall(target);
                front += brakingWay(v + 2 * k, target.speed(), b < 1 ? 1 : b);
                if (front > target.place()) {
                    return true;
                }
            }
        }
        return false;
    }

    int grade(int v) {
        if (mode == 4 || mode == 6) {
            return 4;
        }
        int c = ceiling();
        if (v > c + 8 || over(v, e, 2, 0, true)) {
            return 4;
        }
        if (v > c + 5 || over(v, s, 3, 0, false)) {
            return 3;
        }
        if (v > c + 3 || over(v, s, 3, 2, false)) {
            return 2;
        }
        if (v > c || over(v, s, 3, 4, false)) {
            return 1;
        }
        return 0;
    }

    int allowed() {
        for (int v = 600; v >= 0; v--) {
            if (grade(v) == 0) {
                return v;
            }
        }
        return 0;
    }
}
