/**
 * The unit on board of a train that keeps it below allowed speeds and before the end of its authority.
 * What each call does and answers stands in DOC.md; the words of its section "Terms" are the names here.
 */
public final class TrainGuard {
    public static final int NONE = -1;
    public static final int MAX = 600;

    private static final int STAND_BY = 0;
    private static final int STAFF = 1;
    private static final int FULL = 2;
    private static final int ON_SIGHT = 3;
    private static final int TRIP = 4;
    private static final int POST_TRIP = 5;
    private static final int FAILED = 6;

    private static final int KIND_AUTHORITY = 3;
    private static final int KIND_SHORTEN = 9;
    private static final int KIND_STOP = 16;
    private static final int KIND_TRACK = 24;

    private static final int NOTE_MODE = 1;
    private static final int NOTE_COMMAND = 2;
    private static final int NOTE_TAKEN = 3;
    private static final int NOTE_FAULT = 4;
    private static final int NOTE_MARK = 5;
    private static final int NOTE_MARK_FAULT = 6;
    private static final int NOTE_DRIVER = 7;

    private static final int START = 0;
    private static final int ACKNOWLEDGE = 1;
    private static final int RELEASE = 2;

    private static final int MOST_BITS = 600;
    private static final int MOST_BITS_A_CALL = 30;
    private static final int MOST_ENTRIES = 7;
    private static final int MOST_RESTRICTIONS = 6;
    private static final int MOST_NOTES = 16;
    private static final int MOST_PULSES = 500;
    private static final int LAST_PLACE = 2147483647;
    private static final int STAFF_CEILING = 80;
    private static final int ON_SIGHT_CEILING = 60;
    private static final int STAFF_WAY = 3000;
    private static final int ASKED_CYCLES = 3;
    private static final int WORST_GRADE = 4;
    private static final int SERVICE_GRADE = 3;

    private final int length;
    private final Front front = new Front();
    private final Track track = new Track();
    private final BitRow bitRow = new BitRow();
    private final Message received = new Message();
    private final Curves curves;
    private final Brakes brakes = new Brakes();
    private final Notes notes = new Notes();
    private int modeNow = STAND_BY;
    private int staffEnd;
    private int cycles;
    private int latestTime = NONE;
    private boolean asked;
    private int askedCycles;

    public TrainGuard(int emergency, int service, int length) {
        int most = within(emergency, 4, 40);
        this.curves = new Curves(most, within(service, 2, most));
        this.length = within(length, 0, 4000);
    }

    public boolean bits(int value, int count) {
        return bitRow.put(value, count);
    }

    public int message() {
        int fault = received.readFrom(bitRow, latestTime);
        bitRow.clear();
        if (fault == 0) {
            fault = faultOfReceived();
        }
        if (fault != 0) {
            write(NOTE_FAULT, fault);
            return fault;
        }
        write(NOTE_TAKEN, received.kind);
        latestTime = received.time;
        obeyReceived();
        return 0;
    }

    public boolean mark(int number) {
        MarkRow row = track.marks;
        int i = row.firstOpen(number);
        if (i < 0) {
            return false;
        }
        boolean fault = row.anyOpenBefore(i) || front.high < row.earliest(i) || front.low > row.latest(i);
        row.passUpTo(i);
        write(NOTE_MARK, number % 100);
        if (fault) {
            faultOfMarks();
        } else {
            front.narrow(row.earliest(i), row.latest(i));
        }
        return true;
    }

    public int cycle(int pulses) {
        cycles++;
        if (modeNow == FAILED || pulses < 0 || pulses > MOST_PULSES) {
            become(FAILED);
        } else {
            front.advance(pulses);
            lookForTrip();
        }
        if (asked) {
            askedCycles++;
        }
        boolean askedBrake = asked && askedCycles >= ASKED_CYCLES;
        if (brakes.apply(gradeNow(), pulses == 0, askedBrake)) {
            write(NOTE_COMMAND, brakes.command);
        }
        return brakes.command;
    }

    public boolean driver(int what) {
        if (!driverMay(what)) {
            return false;
        }
        write(NOTE_DRIVER, what);
        if (what == START) {
            start();
        } else if (what == ACKNOWLEDGE) {
            asked = false;
        } else {
            become(POST_TRIP);
        }
        return true;
    }

    public int mode() {
        return modeNow;
    }

    public int state(int what) {
        switch (what) {
            case 0:
                return front.low;
            case 1:
                return front.high;
            case 2:
                return front.top;
            case 3:
                return brakes.command;
            case 4:
                return asked ? 1 : 0;
            case 5:
                return cycles;
            case 6:
                return bitRow.count;
            default:
                return NONE;
        }
    }

    public int display(int what) {
        switch (what) {
            case 0:
                return allowedNow();
            case 1:
                return gradeNow();
            case 2:
                return track.hasAuthority ? Math.max(track.end - front.high, 0) : NONE;
            case 3:
                return isStopped() ? NONE : ceilingNow();
            default:
                return NONE;
        }
    }

    public int limit(int place) {
        return place < 0 ? MAX : track.leastLimit(place, place);
    }

    public int way(int w, int u, int b) {
        if (w < 0 || w > MAX || u < 0 || u > MAX || b < 1 || b > 40) {
            return NONE;
        }
        return brakingWay(w, u, b);
    }

    public int marks(int k) {
        return track.marks.shown(k);
    }

    public int note(int k) {
        return notes.get(k);
    }

    private static int within(int x, int least, int most) {
        return Math.max(least, Math.min(x, most));
    }

    /**
     * The document's steps w - b, w - 2 * b, .. summed at once: only the last of them can lie at or below u,
     * so only that one can fall below 0.
     */
    private static int brakingWay(int w, int u, int b) {
        if (w <= u || b < 1) {
            return 0;
        }
        int steps = (w - u + b - 1) / b;
        int before = steps - 1;
        int last = w - steps * b;
        return before * w - b * (before * steps / 2) + (last > 0 ? last : 0);
    }

    private boolean isGuided() {
        return modeNow == FULL || modeNow == ON_SIGHT;
    }

    private boolean isStopped() {
        return modeNow == TRIP || modeNow == FAILED;
    }

    private void write(int kind, int value) {
        notes.add(10000 * cycles + 100 * kind + value);
    }

    private void become(int mode) {
        if (modeNow != mode) {
            modeNow = mode;
            write(NOTE_MODE, mode);
        }
    }

    private void trip() {
        become(TRIP);
        track.forget();
        asked = false;
    }

    private void faultOfMarks() {
        write(NOTE_MARK_FAULT, 0);
        if (isGuided()) {
            trip();
        }
    }

    private void lookForTrip() {
        if (isGuided()) {
            if (track.marks.passBehind(front.low)) {
                faultOfMarks();
            } else if (front.low > track.end) {
                trip();
            }
        } else if (modeNow == STAFF && front.low > staffEnd) {
            trip();
        }
    }

    private void enterModeOfAuthority() {
        boolean wasAnother = modeNow != track.endMode;
        become(track.endMode);
        if (track.endMode == FULL) {
            asked = false;
        } else if (wasAnother) {
            asked = true;
            askedCycles = 0;
        }
    }

    private boolean driverMay(int what) {
        switch (what) {
            case START:
                return (modeNow == STAND_BY || modeNow == POST_TRIP) && front.top == 0;
            case ACKNOWLEDGE:
                return asked;
            case RELEASE:
                return modeNow == TRIP && front.top == 0;
            default:
                return false;
        }
    }

    private void start() {
        if (track.hasAuthority && !track.profile.isEmpty()) {
            enterModeOfAuthority();
        } else {
            become(STAFF);
            staffEnd = front.high + STAFF_WAY;
        }
    }

    private int faultOfReceived() {
        boolean hasAuthority = received.came[Message.AUTHORITY];
        if (received.kind == KIND_AUTHORITY && !hasAuthority || received.kind == KIND_TRACK && hasAuthority) {
            return 8;
        }
        if (modeNow == FAILED || modeNow == TRIP && received.kind != KIND_STOP) {
            return 9;
        }
        if (received.kind == KIND_SHORTEN && !track.hasAuthority) {
            return 10;
        }
        if (received.kind == KIND_SHORTEN && (received.end > track.end
                || isGuided() && gradeWithEnd(received.end) >= SERVICE_GRADE)) {
            return 11;
        }
        boolean hasRoom = !received.came[Message.RESTRICTION]
                || track.restrictions.hasRoom(received.number, received.endedNumber());
        return hasRoom ? 0 : 12;
    }

    private void obeyReceived() {
        if (received.kind == KIND_STOP) {
            trip();
        } else if (received.kind == KIND_SHORTEN) {
            track.end = received.end;
        } else {
            track.put(received, front.low);
            boolean onTheWay = modeNow == STAFF || isGuided();
            if (received.kind == KIND_AUTHORITY && onTheWay && !track.profile.isEmpty()) {
                enterModeOfAuthority();
            }
        }
    }

    private int ceilingNow() {
        if (isGuided()) {
            int least = track.leastLimit(front.low - length, front.high);
            return modeNow == ON_SIGHT ? Math.min(least, ON_SIGHT_CEILING) : least;
        }
        return modeNow == STAFF ? STAFF_CEILING : 0;
    }

    private int gradeNow() {
        return gradeWithEnd(track.end);
    }

    private int gradeWithEnd(int end) {
        if (isStopped()) {
            return WORST_GRADE;
        }
        lookAhead(end);
        return curves.gradeOf(front.top);
    }

    private int allowedNow() {
        if (isStopped()) {
            return 0;
        }
        lookAhead(track.end);
        return curves.allowed();
    }

    /** END comes first and the SUPERVISED place last, as the curves want it. */
    private void lookAhead(int end) {
        curves.begin(ceilingNow(), front.high);
        if (isGuided()) {
            addTarget(end, 0);
            addTargetsOf(track.profile);
            addTargetsOf(track.restrictions.spans);
            addTarget(end + track.overlap, 0);
        }
    }

    private void addTargetsOf(SpanRow spans) {
        for (int i = 0; i < spans.count; i++) {
            if (spans.firsts[i] > front.high) {
                addTarget(spans.firsts[i], spans.values[i]);
            }
        }
    }

    private void addTarget(int place, int speed) {
        curves.add(place, speed, track.grades.greatest(front.low - length, place));
    }

    /** Where the front may be, and the greatest speed that the train may have. */
    private static final class Front {
        private int low;
        private int high;
        private int top;

        void advance(int pulses) {
            int uncertain = pulses == 0 ? 0 : 1 + pulses / 16;
            high += pulses + uncertain;
            low += pulses - uncertain;
            top = pulses + uncertain;
        }

        void narrow(int earliest, int latest) {
            low = Math.max(low, earliest);
            high = Math.min(high, latest);
        }
    }

    /** Values that hold from a first place to a last one: limits and falls. */
    private static final class SpanRow {
        private final int[] firsts = new int[MOST_ENTRIES];
        private final int[] lasts = new int[MOST_ENTRIES];
        private final int[] values = new int[MOST_ENTRIES];
        private int count;

        boolean isEmpty() {
            return count == 0;
        }

        void clear() {
            count = 0;
        }

        void add(int first, int last, int value) {
            if (count < MOST_ENTRIES) {
                firsts[count] = first;
                lasts[count] = last;
                values[count] = value;
                count++;
            }
        }

        /** Steps come by rising places, so each of them ends the one before it. */
        void addStep(int place, int value) {
            if (count > 0) {
                lasts[count - 1] = place - 1;
            }
            add(place, LAST_PLACE, value);
        }

        void copyFrom(SpanRow other) {
            clear();
            for (int i = 0; i < other.count; i++) {
                add(other.firsts[i], other.lasts[i], other.values[i]);
            }
        }

        /** The last one fills the gap: nothing that is answered hangs on the order of restrictions. */
        void fillFromLast(int i) {
            if (i >= 0 && i < count) {
                count--;
                firsts[i] = firsts[count];
                lasts[i] = lasts[count];
                values[i] = values[count];
            }
        }

        int least(int from, int to) {
            int least = MAX;
            for (int i = 0; i < count; i++) {
                if (firsts[i] <= to && lasts[i] >= from && values[i] < least) {
                    least = values[i];
                }
            }
            return least;
        }

        /** A target far behind the train can make the stretch empty. */
        int greatest(int from, int to) {
            if (from > to) {
                return 0;
            }
            int greatest = 0;
            for (int i = 0; i < count; i++) {
                if (firsts[i] <= to && lasts[i] >= from && values[i] > greatest) {
                    greatest = values[i];
                }
            }
            return greatest;
        }
    }

    private static final class Restrictions {
        private final int[] numbers = new int[MOST_RESTRICTIONS];
        private final SpanRow spans = new SpanRow();

        boolean hasRoom(int number, int endedNumber) {
            return spans.count < MOST_RESTRICTIONS || indexOf(number) >= 0 || indexOf(endedNumber) >= 0;
        }

        void remove(int number) {
            int i = indexOf(number);
            if (i >= 0) {
                spans.fillFromLast(i);
                numbers[i] = numbers[spans.count];
            }
        }

        void put(int number, int place, int reach, int speed) {
            remove(number);
            if (spans.count < MOST_RESTRICTIONS) {
                numbers[spans.count] = number;
                spans.add(place, place + reach - 1, speed);
            }
        }

        private int indexOf(int number) {
            for (int i = 0; i < MOST_RESTRICTIONS && i < spans.count; i++) {
                if (numbers[i] == number) {
                    return i;
                }
            }
            return NONE;
        }
    }

    /** The marks that are expected, by rising places; one is open until it is passed. */
    private static final class MarkRow {
        private final int[] places = new int[MOST_ENTRIES];
        private final int[] numbers = new int[MOST_ENTRIES];
        private final int[] accuracies = new int[MOST_ENTRIES];
        private final boolean[] passed = new boolean[MOST_ENTRIES];
        private int count;

        void clear() {
            count = 0;
        }

        void add(int place, int number, int accuracy) {
            if (count < MOST_ENTRIES) {
                places[count] = place;
                numbers[count] = number;
                accuracies[count] = accuracy;
                passed[count] = false;
                count++;
            }
        }

        void copyFrom(MarkRow other) {
            clear();
            for (int i = 0; i < other.count; i++) {
                add(other.places[i], other.numbers[i], other.accuracies[i]);
            }
        }

        int earliest(int i) {
            return places[i] - accuracies[i];
        }

        int latest(int i) {
            return places[i] + accuracies[i];
        }

        int firstOpen(int number) {
            for (int i = 0; i < count; i++) {
                if (!passed[i] && numbers[i] == number) {
                    return i;
                }
            }
            return NONE;
        }

        boolean anyOpenBefore(int end) {
            for (int i = 0; i < end; i++) {
                if (!passed[i]) {
                    return true;
                }
            }
            return false;
        }

        void passUpTo(int last) {
            for (int i = 0; i <= last; i++) {
                passed[i] = true;
            }
        }

        boolean passBehind(int low) {
            boolean any = false;
            for (int i = 0; i < count; i++) {
                if (!passed[i] && latest(i) < low) {
                    passed[i] = true;
                    any = true;
                }
            }
            return any;
        }

        int shown(int k) {
            if (k < 0 || k >= count) {
                return NONE;
            }
            return 1000 * places[k] + 4 * numbers[k] + (passed[k] ? 1 : 0);
        }
    }

    /** What the messages have told of the way ahead. */
    private static final class Track {
        private final SpanRow profile = new SpanRow();
        private final SpanRow grades = new SpanRow();
        private final Restrictions restrictions = new Restrictions();
        private final MarkRow marks = new MarkRow();
        private boolean hasAuthority;
        private int end;
        private int overlap;
        private int endMode = FULL;

        void forget() {
            hasAuthority = false;
            profile.clear();
            grades.clear();
            marks.clear();
        }

        int leastLimit(int from, int to) {
            return Math.min(profile.least(from, to), restrictions.spans.least(from, to));
        }

        /** The ended restriction goes first, so that its room is free for the new one. */
        void put(Message m, int low) {
            if (m.came[Message.ENDED]) {
                restrictions.remove(m.ended);
            }
            if (m.came[Message.RESTRICTION]) {
                restrictions.put(m.number, m.from, m.reach, m.speed);
            }
            if (m.came[Message.AUTHORITY]) {
                hasAuthority = true;
                end = m.end;
                overlap = m.overlap;
                endMode = m.endMode;
            }
            if (m.came[Message.PROFILE]) {
                profile.copyFrom(m.profile);
            }
            if (m.came[Message.GRADES]) {
                grades.copyFrom(m.grades);
            }
            if (m.came[Message.MARKS]) {
                marks.copyFrom(m.marks);
                marks.passBehind(low);
            }
        }
    }

    /** The bits that there are, and how far they have been read; the first fault sticks. */
    private static final class BitRow {
        private final byte[] row = new byte[MOST_BITS];
        private int count;
        private int position;
        private int fault;

        boolean put(int value, int more) {
            if (more < 1 || more > MOST_BITS_A_CALL || count + more > MOST_BITS) {
                return false;
            }
            for (int shift = more - 1; shift >= 0; shift--) {
                row[count] = (byte) (value >> shift & 1);
                count++;
            }
            return true;
        }

        void clear() {
            count = 0;
        }

        void begin() {
            position = 0;
            fault = 0;
        }

        int left() {
            return count - position;
        }

        boolean isSound() {
            return fault == 0;
        }

        void need(boolean holds, int otherwise) {
            if (fault == 0 && !holds) {
                fault = otherwise;
            }
        }

        /** 0 once there is a fault: the message is dropped then, whatever is read of it. */
        int take(int size) {
            if (fault == 0 && size > count - position) {
                fault = 2;
            }
            if (fault != 0) {
                return 0;
            }
            int value = 0;
            for (int i = 0; i < size; i++) {
                value = 2 * value + row[position];
                position++;
            }
            return value;
        }
    }

    /** A message as it was read; nothing of it counts before it is taken. */
    private static final class Message {
        private static final int[] IDS = {5, 15, 21, 27, 65, 66};
        private static final int MARKS = 0;
        private static final int AUTHORITY = 1;
        private static final int GRADES = 2;
        private static final int PROFILE = 3;
        private static final int RESTRICTION = 4;
        private static final int ENDED = 5;
        private static final int HEAD_OF_PACKET = 21;

        private final boolean[] came = new boolean[IDS.length];
        private final MarkRow marks = new MarkRow();
        private final SpanRow grades = new SpanRow();
        private final SpanRow profile = new SpanRow();
        private int kind;
        private int time;
        private int end;
        private int overlap;
        private int endMode;
        private int number;
        private int from;
        private int reach;
        private int speed;
        private int ended;

        int endedNumber() {
            return came[ENDED] ? ended : NONE;
        }

        int readFrom(BitRow in, int latestTime) {
            in.begin();
            for (int i = 0; i < came.length; i++) {
                came[i] = false;
            }
            kind = in.take(8);
            in.need(kind == KIND_AUTHORITY || kind == KIND_SHORTEN || kind == KIND_STOP || kind == KIND_TRACK, 1);
            in.need(in.take(10) == in.count, 2);
            time = in.take(16);
            in.need(time > latestTime, 3);
            if (kind == KIND_SHORTEN) {
                end = takePlace(in);
            }
            boolean hasPackets = kind == KIND_AUTHORITY || kind == KIND_TRACK;
            // Each packet that is sound takes bits away, so there are never more of them than bits.
            for (int i = 0; i < MOST_BITS && hasPackets && in.isSound() && in.left() > 0; i++) {
                readPacket(in);
            }
            in.need(in.left() == 0, 2);
            return in.fault;
        }

        private void readPacket(BitRow in) {
            int there = in.left();
            int slot = slotOf(in.take(8));
            in.need(slot >= 0, 4);
            in.need(slot < 0 || !came[slot], 7);
            int size = in.take(13);
            in.need(size >= HEAD_OF_PACKET && size <= there, 2);
            if (slot >= 0 && in.isSound()) {
                came[slot] = true;
                readNumbers(in, slot);
                in.need(there - in.left() == size, 5);
            }
        }

        private static int slotOf(int id) {
            for (int i = 0; i < IDS.length; i++) {
                if (IDS[i] == id) {
                    return i;
                }
            }
            return NONE;
        }

        private void readNumbers(BitRow in, int slot) {
            switch (slot) {
                case MARKS:
                    readMarks(in);
                    break;
                case AUTHORITY:
                    readAuthority(in);
                    break;
                case GRADES:
                    readSteps(in, grades, false);
                    break;
                case PROFILE:
                    readSteps(in, profile, true);
                    break;
                case RESTRICTION:
                    readRestriction(in);
                    break;
                default:
                    ended = in.take(8);
                    break;
            }
        }

        private void readMarks(BitRow in) {
            marks.clear();
            int n = in.take(3);
            int before = NONE;
            for (int i = 0; i < n && in.isSound(); i++) {
                before = takePlaceBehind(in, before);
                int markNumber = in.take(8);
                marks.add(before, markNumber, in.take(6));
            }
        }

        private void readAuthority(BitRow in) {
            end = takePlace(in);
            overlap = in.take(10);
            int code = in.take(2);
            in.need(code <= 1, 6);
            endMode = code == 0 ? FULL : ON_SIGHT;
        }

        private void readSteps(BitRow in, SpanRow steps, boolean areLimits) {
            steps.clear();
            int n = in.take(3);
            in.need(n != 0 || !areLimits, 6);
            int before = NONE;
            for (int i = 0; i < n && in.isSound(); i++) {
                before = takePlaceBehind(in, before);
                steps.addStep(before, areLimits ? takeLimit(in) : in.take(6));
            }
        }

        private void readRestriction(BitRow in) {
            number = in.take(8);
            from = takePlace(in);
            reach = takePlace(in);
            in.need(reach != 0, 6);
            speed = takeLimit(in);
        }

        private static int takePlace(BitRow in) {
            return 10 * in.take(15);
        }

        private static int takePlaceBehind(BitRow in, int before) {
            int place = 10 * in.take(15);
            in.need(place > before, 6);
            return place;
        }

        private static int takeLimit(BitRow in) {
            return Math.min(5 * in.take(7), MAX);
        }
    }

    /** The ceiling and the targets as they are at one moment, and what they say of a speed. */
    private static final class Curves {
        private static final int MOST_TARGETS = MOST_ENTRIES + MOST_RESTRICTIONS + 2;

        private final int emergency;
        private final int service;
        private final int[] places = new int[MOST_TARGETS];
        private final int[] speeds = new int[MOST_TARGETS];
        private final int[] falls = new int[MOST_TARGETS];
        private int count;
        private int ceiling;
        private int high;

        Curves(int emergency, int service) {
            this.emergency = emergency;
            this.service = service;
        }

        void begin(int ceilingThere, int highThere) {
            ceiling = ceilingThere;
            high = highThere;
            count = 0;
        }

        void add(int place, int speed, int fall) {
            if (count < MOST_TARGETS) {
                places[count] = place;
                speeds[count] = speed;
                falls[count] = fall;
                count++;
            }
        }

        int gradeOf(int v) {
            if (v > ceiling + 8 || isOverEmergency(v)) {
                return WORST_GRADE;
            }
            if (v > ceiling + 5 || isOverService(v, 0)) {
                return SERVICE_GRADE;
            }
            if (v > ceiling + 3 || isOverService(v, 2)) {
                return 2;
            }
            return v > ceiling || isOverService(v, 4) ? 1 : 0;
        }

        /** Halving finds it: a speed below one of grade 0 has grade 0 too, for every way grows with v. */
        int allowed() {
            int allowed = 0;
            int least = 1;
            int most = ceiling;
            for (int i = 0; i < MAX && least <= most; i++) {
                int middle = (least + most) / 2;
                if (gradeOf(middle) == 0) {
                    allowed = middle;
                    least = middle + 1;
                } else {
                    most = middle - 1;
                }
            }
            return allowed;
        }

        /** The first target is END, which this curve leaves to the SUPERVISED place, the last one. */
        private boolean isOverEmergency(int v) {
            for (int i = 1; i < count; i++) {
                if (isOver(i, v, emergency, 2, 0)) {
                    return true;
                }
            }
            return false;
        }

        private boolean isOverService(int v, int more) {
            for (int i = 0; i < count - 1; i++) {
                if (isOver(i, v, service, 3, more)) {
                    return true;
                }
            }
            return false;
        }

        private boolean isOver(int i, int v, int deceleration, int growth, int more) {
            int greatest = v + 2 * growth;
            if (greatest <= speeds[i]) {
                return false;
            }
            int growing = growth * v + growth * (growth + 1);
            int b = deceleration - falls[i];
            return high + growing + more * v + brakingWay(greatest, speeds[i], b > 1 ? b : 1) > places[i];
        }
    }

    /** Each brake stays on until its own condition lets it go. */
    private static final class Brakes {
        private boolean emergency;
        private boolean service;
        private int command;

        /** Answers whether the command became another one. */
        boolean apply(int grade, boolean stands, boolean askedBrake) {
            if (grade >= WORST_GRADE) {
                emergency = true;
            } else if (stands) {
                emergency = false;
            }
            if (grade >= SERVICE_GRADE) {
                service = true;
            } else if (stands || grade == 0) {
                service = false;
            }
            int before = command;
            command = emergency ? 2 : service || askedBrake ? 1 : 0;
            return command != before;
        }
    }

    /** The latest notes, written round and round in one row. */
    private static final class Notes {
        private final int[] row = new int[MOST_NOTES];
        private int count;
        private int next;

        void add(int note) {
            row[next] = note;
            next = (next + 1) % MOST_NOTES;
            if (count < MOST_NOTES) {
                count++;
            }
        }

        int get(int k) {
            if (k < 0 || k >= count) {
                return NONE;
            }
            return row[(next - 1 - k + MOST_NOTES) % MOST_NOTES];
        }
    }
}
