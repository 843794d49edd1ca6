/** One refused call for each exception that the document names, and what is told behind it. */
final class Refused {
    private static final String INDEX = "IndexOutOfBoundsException";
    private static final String ARGUMENT = "IllegalArgumentException";
    private static final String STATE = "IllegalStateException";
    private static final String[] DUE = {
        ARGUMENT, ARGUMENT, ARGUMENT, INDEX, ARGUMENT, STATE, INDEX, STATE, INDEX, ARGUMENT,
        INDEX, ARGUMENT, STATE, INDEX, ARGUMENT, ARGUMENT, STATE, INDEX, INDEX, ARGUMENT,
        ARGUMENT, ARGUMENT, ARGUMENT, INDEX, INDEX, STATE, INDEX, ARGUMENT, STATE, INDEX,
        ARGUMENT, ARGUMENT, ARGUMENT, ARGUMENT, INDEX, ARGUMENT, INDEX, INDEX, ARGUMENT, INDEX,
        ARGUMENT, INDEX, ARGUMENT, INDEX, INDEX, INDEX, INDEX, INDEX, ARGUMENT};
    static final int CALLS = DUE.length;

    private Refused() {
    }

    static String due(int call) {
        return DUE[call];
    }

    /**
     * An object that is full of all: TICK is 1999, 24 cells are stuck and 24 are weak, both spares
     * of bank 0 are used, the log has 40 entries, and 127 is retired.
     */
    static Scrubward busy() {
        Scrubward x = new Scrubward();
        for (int i = 0; i < 19; i++) {
            x.pass(100);
        }
        x.run(60, 3, 3, false, true);
        for (int i = 0; i < 24; i++) {
            x.write(64 + 5 * i % 61, 10 * i);
            x.stick(3 * i % 64, i % 13, i % 3 == 0);
            x.weak(64 + 5 * i % 61, i % 13, 1 + 2 * i);
        }
        x.spare(0, 3);
        x.spare(0, 5);
        x.pass(60);
        x.pass(39);
        for (int i = 0; i < 45; i++) {
            x.ray(50, 1 << i % 13);
            x.read(50);
        }
        x.call();
        x.retire(127, true);
        return x;
    }

    static String answer(Scrubward x, int call) {
        try {
            return "answered " + (call < 25 ? first(x, call) : second(x, call));
        } catch (RuntimeException e) {
            return e.getClass().getSimpleName();
        }
    }

    private static long first(Scrubward x, int call) {
        switch (call) {
            case 0: return x.code(3, 5);
            case 1: return x.code(8, 7);
            case 2: return x.code(5, 4);
            case 3: return x.write(128, 0);
            case 4: return x.write(0, 256);
            case 5: return x.write(127, 0);
            case 6: return x.read(-1);
            case 7: return x.read(127);
            case 8: return x.ray(128, 1);
            case 9: return x.ray(0, 8192);
            case 10: return x.stick(128, 0, true);
            case 11: return x.stick(0, 13, true);
            case 12: return x.stick(0, 0, true);
            case 13: return x.weak(-1, 0, 1);
            case 14: return x.weak(0, -1, 1);
            case 15: return x.weak(0, 0, 61);
            case 16: return x.weak(0, 0, 1);
            case 17: return x.hammer(2, 0, 3);
            case 18: return x.hammer(0, 8, 3);
            case 19: return x.hammer(0, 0, 101);
            case 20: return x.run(101, 4, 5, true, false);
            case 21: return x.run(7, 1, 5, true, false);
            case 22: return x.run(7, 4, 9, true, false);
            case 23: return x.spare(2, 0);
            default: return x.spare(1, 8);
        }
    }

    private static long second(Scrubward x, int call) {
        switch (call) {
            case 25: return x.spare(0, 3);
            case 26: return x.retire(128, true);
            case 27: return x.pass(0);
            case 28: return x.pass(2);
            case 29: return x.column(13);
            case 30: return x.encode(256);
            case 31: return x.decode(8192, 0);
            case 32: return x.decode(0, 4);
            case 33: return x.fooled(4);
            case 34: return x.ofWord(128, 0);
            case 35: return x.ofWord(0, 7);
            case 36: return x.ofLine(2, 0, 0);
            case 37: return x.ofLine(0, 10, 0);
            case 38: return x.ofLine(0, 0, 5);
            case 39: return x.ofEntry(40, 0);
            case 40: return x.ofEntry(0, 3);
            case 41: return x.blame(2, true);
            case 42: return x.board(18);
            case 43: return (long) x.health(2);
            case 44: return x.tell(2, 0).length();
            case 45: return x.tell(0, 8).length();
            case 46: return x.wouldRead(128);
            case 47: return x.wouldSpare(2);
            default: return x.wouldLeak(101);
        }
    }

    /** What is told of an object, and of what is done with it, with which hidden things show. */
    static String later(Scrubward x) {
        StringBuilder told = new StringBuilder();
        told.append(x.digest()).append(' ').append(x.call());
        for (int ticks = 1; ticks <= 60; ticks++) {
            told.append(' ').append(x.wouldLeak(ticks));
        }
        told.append(' ').append(x.pass(1)).append(' ').append(x.digest());
        for (int row = 0; row < 8; row++) {
            told.append(' ').append(x.tell(0, row)).append(x.tell(1, row));
            told.append(' ').append(x.hammer(row % 2, row, 7));
        }
        told.append(' ').append(x.digest()).append(' ').append(x.run(9, 5, 1, true, false));
        for (int address = 0; address < 64; address++) {
            told.append(' ').append(x.ray(address, 8191));
        }
        told.append(' ').append(x.retire(127, false)).append(' ').append(x.clear());
        told.append(' ').append(x.read(127)).append(' ').append(x.spare(1, 2));
        told.append(' ').append(x.digest()).append(' ').append(x.code(7, 5));
        told.append(' ').append(x.stick(0, 1, true)).append(' ').append(x.weak(0, 2, 3));
        return told.append(' ').append(x.digest()).toString();
    }
}
