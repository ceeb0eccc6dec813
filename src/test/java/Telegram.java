/** Writes a message bit by bit. Places, lengths and limits are given as their numbers in the message. */
final class Telegram {
    private static final int LENGTH_AT = 8;

    private final StringBuilder row = new StringBuilder();
    private int lengthOff;

    private boolean hasLength = true;

    private Telegram() {
    }

    static Telegram of(int kind, int time) {
        return new Telegram().put(kind, 8).put(0, 10).put(time, 16);
    }

    /** Bits alone, to which no LENGTH is written. */
    static Telegram raw(String bits) {
        Telegram raw = new Telegram();
        raw.row.append(bits);
        raw.hasLength = false;
        return raw;
    }

    static Telegram shorten(int time, int place) {
        return of(9, time).put(place, 15);
    }

    static Telegram stop(int time) {
        return of(16, time);
    }

    Telegram put(int value, int count) {
        for (int i = count - 1; i >= 0; i--) {
            row.append((value >> i & 1) == 1 ? '1' : '0');
        }
        return this;
    }

    Telegram lengthOffBy(int off) {
        lengthOff = off;
        return this;
    }

    /** Drops bits from the end, but never LENGTH, which then counts what is left. */
    Telegram cutTo(int size) {
        row.setLength(Math.max(size, LENGTH_AT + 10));
        return this;
    }

    int size() {
        return row.length();
    }

    /** A packet of the given numbers, each with its bits; its SIZE is right but for what is added to it. */
    Telegram packet(int id, int sizeOff, int... numbersAndBits) {
        int size = 21;
        for (int i = 1; i < numbersAndBits.length; i += 2) {
            size += numbersAndBits[i];
        }
        put(id, 8).put(size + sizeOff, 13);
        for (int i = 0; i + 1 < numbersAndBits.length; i += 2) {
            put(numbersAndBits[i], numbersAndBits[i + 1]);
        }
        return this;
    }

    /** Three numbers for each mark: place, number, accuracy. */
    Telegram marks(int... numbers) {
        return list(5, 3, new int[] {15, 8, 6}, numbers);
    }

    Telegram authority(int end, int overlap, int mode) {
        return packet(15, 0, end, 15, overlap, 10, mode, 2);
    }

    /** Two numbers for each step: place, fall. */
    Telegram grades(int... numbers) {
        return list(21, 3, new int[] {15, 6}, numbers);
    }

    /** Two numbers for each step: place, limit. */
    Telegram profile(int... numbers) {
        return list(27, 3, new int[] {15, 7}, numbers);
    }

    Telegram restriction(int number, int place, int length, int limit) {
        return packet(65, 0, number, 8, place, 15, length, 15, limit, 7);
    }

    Telegram ended(int number) {
        return packet(66, 0, number, 8);
    }

    private Telegram list(int id, int countBits, int[] widths, int[] numbers) {
        int[] all = new int[2 + 2 * numbers.length];
        all[0] = numbers.length / widths.length;
        all[1] = countBits;
        for (int i = 0; i < numbers.length; i++) {
            all[2 + 2 * i] = numbers[i];
            all[3 + 2 * i] = widths[i % widths.length];
        }
        return packet(id, 0, all);
    }

    String bits() {
        StringBuilder whole = new StringBuilder(row);
        if (hasLength) {
            int length = row.length() + lengthOff;
            for (int i = 0; i < 10; i++) {
                whole.setCharAt(LENGTH_AT + i, (length >> (9 - i) & 1) == 1 ? '1' : '0');
            }
        }
        return whole.toString();
    }

    void bitsTo(TrainGuard guard) {
        String whole = bits();
        for (int at = 0; at < whole.length(); at += 30) {
            String part = whole.substring(at, Math.min(at + 30, whole.length()));
            if (!guard.bits(Integer.parseInt(part, 2), part.length())) {
                throw new IllegalStateException("the bits were not taken");
            }
        }
    }

    int to(TrainGuard guard) {
        bitsTo(guard);
        return guard.message();
    }
}
