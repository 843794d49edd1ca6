import java.util.function.Supplier;

/** Promises 13, 14, 21 to 23, 29 and 30: the log, the nurse, blame, the board, isSound and the digest. */
final class LogTest {
    private static final Checks CHECKS = new Checks();

    public static void main(String[] args) {
        promise13Clear();
        promise14Call();
        promise21OfEntry();
        promise22Chip();
        promise22Row();
        promise22Column();
        promise22Cell();
        promise22Refuses();
        promise23Board();
        promise29IsSound();
        promise30Digest();
        CHECKS.end();
    }

    /** A word that is mended, logged and clean again. */
    private static void mend(Scrubward x, int address, int bit) {
        x.ray(address, 1 << bit);
        x.read(address);
        x.ray(address, 1 << bit);
    }

    private static void promise13Clear() {
        Scrubward x = new Scrubward();
        CHECKS.due("clear()", x.clear(), 0);
        mend(x, 0, 0);
        x.ray(1, 3);
        x.read(1);
        CHECKS.due("clear()", x.clear(), 2);
        CHECKS.due("entries", x.board(9), 0);
        CHECKS.due("the counts stay", x.board(10), 1);
        CHECKS.due("the counts stay", x.board(11), 1);
        CHECKS.due("poison stays", x.board(12), 1);
        CHECKS.due("clear()", x.clear(), 0);
        mend(x, 7, 4);
        CHECKS.due("the first entry again", x.ofEntry(0, 0), 7);
        CHECKS.due("clear()", x.clear(), 1);
    }

    private static void promise14Call() {
        Scrubward x = new Scrubward();
        CHECKS.due("call()", x.call(), 1);
        CHECKS.due("call()", x.call(), 2);
        CHECKS.due("board(17)", x.board(17), 2);
        x.clear();
        x.code(4, 4);
        CHECKS.due("call()", x.call(), 3);
    }

    private static void promise21OfEntry() {
        Scrubward x = new Scrubward();
        CHECKS.dueIndex(x, "ofEntry(0, 0)", () -> x.ofEntry(0, 0));
        for (int i = 0; i < 45; i++) {
            mend(x, i, i % 13);
            if (i % 3 == 0) {
                x.pass(1);
            }
        }
        x.ray(100, 3);
        x.read(100);
        CHECKS.due("entries", x.board(9), 40);
        CHECKS.due("mended, also behind the 40", x.board(10), 45);
        CHECKS.due("bad, also behind the 40", x.board(11), 1);
        for (int i = 0; i < 40; i++) {
            CHECKS.due("ofEntry(" + i + ", 0)", x.ofEntry(i, 0), i);
            CHECKS.due("ofEntry(" + i + ", 1)", x.ofEntry(i, 1), i % 13);
            CHECKS.due("ofEntry(" + i + ", 2)", x.ofEntry(i, 2), (i + 2) / 3);
        }
        for (int far : new int[] {-1, 40, Integer.MIN_VALUE, Integer.MAX_VALUE}) {
            CHECKS.dueIndex(x, "ofEntry(" + far + ", 3)", () -> x.ofEntry(far, 3));
        }
        for (int far : new int[] {-1, 3, Integer.MIN_VALUE, Integer.MAX_VALUE}) {
            CHECKS.dueArgument(x, "ofEntry(39, " + far + ")", () -> x.ofEntry(39, far));
        }
        x.clear();
        CHECKS.dueIndex(x, "ofEntry(0, 0)", () -> x.ofEntry(0, 0));
        x.ray(101, 3);
        x.read(101);
        CHECKS.due("a bad one", x.ofEntry(0, 1), -1);
    }

    private static void dueBlame(Scrubward x, int bank, int kind, int what) {
        CHECKS.due("blame(" + bank + ", false)", x.blame(bank, false), kind);
        CHECKS.due("blame(" + bank + ", true)", x.blame(bank, true), what);
    }

    private static void promise22Chip() {
        Scrubward x = new Scrubward();
        dueBlame(x, 0, 0, -1);
        mend(x, 0, 12);
        mend(x, 9, 12);
        mend(x, 10, 12);
        dueBlame(x, 0, 0, -1);
        mend(x, 64 + 18, 12);
        dueBlame(x, 0, 0, -1);
        mend(x, 18, 12);
        dueBlame(x, 0, 1, 12);
        dueBlame(x, 1, 0, -1);
        mend(x, 27, 3);
        mend(x, 36, 3);
        mend(x, 45, 3);
        dueBlame(x, 0, 1, 3);
        mend(x, 1, 0);
        mend(x, 2, 1);
        mend(x, 2, 1);
        dueBlame(x, 0, 1, 3);
        x.clear();
        dueBlame(x, 0, 0, -1);
        for (int row = 0; row < 8; row++) {
            x.ray(64 + 9 * row % 64, 3);
            x.read(64 + 9 * row % 64);
        }
        dueBlame(x, 1, 0, -1);
    }

    private static void promise22Row() {
        Scrubward x = new Scrubward();
        mend(x, 56, 0);
        mend(x, 57, 1);
        mend(x, 57, 2);
        dueBlame(x, 0, 0, -1);
        mend(x, 58, 3);
        dueBlame(x, 0, 2, 7);
        mend(x, 48, 4);
        mend(x, 49, 5);
        mend(x, 50, 6);
        dueBlame(x, 0, 2, 6);
        dueBlame(x, 1, 0, -1);
        mend(x, 56, 0);
        mend(x, 16, 0);
        mend(x, 40, 7);
        mend(x, 32, 8);
        dueBlame(x, 0, 2, 6);
        mend(x, 8, 0);
        dueBlame(x, 0, 1, 0);
    }

    private static void promise22Column() {
        Scrubward x = new Scrubward();
        mend(x, 64 + 7, 0);
        mend(x, 64 + 15, 1);
        mend(x, 64 + 15, 2);
        dueBlame(x, 1, 0, -1);
        mend(x, 64 + 63, 3);
        dueBlame(x, 1, 3, 7);
        mend(x, 64 + 16, 4);
        mend(x, 64 + 24, 5);
        mend(x, 64 + 32, 6);
        dueBlame(x, 1, 3, 0);
        mend(x, 64 + 16, 4);
        dueBlame(x, 1, 3, 0);
        dueBlame(x, 0, 0, -1);
        mend(x, 64 + 17, 7);
        mend(x, 64 + 18, 8);
        dueBlame(x, 1, 2, 2);
    }

    private static void promise22Cell() {
        Scrubward x = new Scrubward();
        mend(x, 100, 5);
        mend(x, 100, 6);
        dueBlame(x, 1, 0, -1);
        mend(x, 101, 6);
        mend(x, 64 + 63, 2);
        dueBlame(x, 1, 0, -1);
        mend(x, 100, 5);
        dueBlame(x, 1, 4, 100);
        mend(x, 64 + 63, 2);
        dueBlame(x, 1, 4, 100);
        mend(x, 70, 12);
        mend(x, 70, 12);
        dueBlame(x, 1, 4, 70);
        dueBlame(x, 0, 0, -1);
        x.ray(0, 3);
        x.read(0);
        x.write(0, 0);
        x.ray(0, 3);
        x.read(0);
        dueBlame(x, 0, 0, -1);
    }

    private static void promise22Refuses() {
        Scrubward x = new Scrubward();
        for (int far : new int[] {-1, 2, Integer.MIN_VALUE, Integer.MAX_VALUE}) {
            CHECKS.dueIndex(x, "blame(" + far + ", true)", () -> x.blame(far, true));
            CHECKS.dueIndex(x, "blame(" + far + ", false)", () -> x.blame(far, false));
        }
    }

    private static void promise23Board() {
        Scrubward x = busy();
        int[] wants = {35, 6, 5, 7, 3, 5, 1, 0, 47, 2, 2, 2, 2, 3, 2, 1, 4, 1};
        for (int what = 0; what < wants.length; what++) {
            CHECKS.due("board(" + what + ")", x.board(what), wants[what]);
        }
        for (int far : new int[] {-1, 18, Integer.MIN_VALUE, Integer.MAX_VALUE}) {
            CHECKS.dueArgument(x, "board(" + far + ")", () -> x.board(far));
        }
    }

    /** An object of which each number of the board is another one than at first, but MIRRORED. */
    private static Scrubward busy() {
        Scrubward x = new Scrubward();
        x.code(6, 5);
        x.run(7, 3, 5, true, false);
        x.pass(35);
        x.hammer(0, 5, 3);
        x.stick(127, 3, true);
        x.stick(126, 3, false);
        x.weak(1, 1, 9);
        x.retire(1, true);
        x.retire(64, true);
        x.retire(65, true);
        x.read(127);
        x.read(127);
        x.clear();
        x.ray(2, 3);
        x.ray(3, 12);
        x.read(2);
        x.read(3);
        x.call();
        return x;
    }

    private static void promise29IsSound() {
        Scrubward x = busy();
        CHECKS.dueTrue("isSound()", x.isSound());
        x.stick(127, 3, false);
        CHECKS.dueTrue("isSound()", x.isSound());
        for (int i = 0; i < 60; i++) {
            x.ray(80, 1);
            x.read(80);
        }
        CHECKS.dueTrue("isSound()", x.isSound());
        x.spare(1, 7);
        x.spare(1, 6);
        x.hammer(1, 6, 100);
        x.pass(100);
        CHECKS.dueTrue("isSound()", x.isSound());
        x.code(10, 6);
        CHECKS.dueTrue("isSound()", x.isSound());
        x.code(4, 4);
        CHECKS.dueTrue("isSound()", x.isSound());
    }

    private static void promise30Digest() {
        dueDigest("of a new object", Scrubward::new);
        dueDigest("nothing is changed by it", LogTest::askedBefore);
        dueDigest("of a busy one", LogTest::busy);
        dueDigest("of a busier one", LogTest::busier);
        dueDigest("with another code", LogTest::codedAnew);
        dueDigest("nothing leaks within 20", () -> leaking(21));
        dueDigest("one leaks within 20", () -> leaking(20));
    }

    private static Scrubward askedBefore() {
        Scrubward x = new Scrubward();
        x.digest();
        return x;
    }

    private static Scrubward busier() {
        Scrubward x = busy();
        x.run(3, 2, 8, false, true);
        x.write(40, 63);
        x.weak(40, 0, 2);
        x.spare(0, 5);
        x.hammer(1, 1, 7);
        x.pass(50);
        return x;
    }

    private static Scrubward codedAnew() {
        Scrubward x = busier();
        x.code(10, 6);
        return x;
    }

    private static Scrubward leaking(int span) {
        Scrubward x = new Scrubward();
        x.run(100, 20, 0, false, false);
        x.ray(0, 1);
        x.weak(0, 0, span);
        return x;
    }

    private static void dueDigest(String what, Supplier<Scrubward> made) {
        StringBuilder told = new StringBuilder();
        tellBoard(told, made.get());
        tellBanks(told, made.get());
        tellWords(told, made.get());
        tellEnd(told, made.get());
        long d = 58281;
        for (String value : told.toString().trim().split(" +")) {
            d = d * 31 + Long.parseLong(value);
        }
        CHECKS.due(what + ": digest()", made.get().digest(), d);
    }

    private static void tellBoard(StringBuilder told, Scrubward x) {
        for (int what = 0; what <= 17; what++) {
            told.append(' ').append(x.board(what));
        }
        int bits = x.board(1) + x.board(2);
        for (int bit = 0; bit < bits; bit++) {
            told.append(' ').append(x.column(bit));
        }
        told.append(' ').append(x.fooled(2)).append(' ').append(x.fooled(3));
    }

    private static void tellBanks(StringBuilder told, Scrubward x) {
        for (int bank = 0; bank <= 1; bank++) {
            told.append(' ').append(x.blame(bank, false)).append(' ').append(x.blame(bank, true));
            told.append(' ').append(x.wouldSpare(bank)).append(' ').append((long) (64 * x.health(bank)));
            for (int line = 0; line <= 9; line++) {
                for (int what = 0; what <= 4; what++) {
                    told.append(' ').append(x.ofLine(bank, line, what));
                }
            }
        }
    }

    private static void tellWords(StringBuilder told, Scrubward x) {
        for (int address = 0; address <= 127; address++) {
            told.append(' ').append(x.ofWord(address, 0)).append(' ').append(x.ofWord(address, 2));
            told.append(' ').append(x.wouldRead(address));
        }
    }

    private static void tellEnd(StringBuilder told, Scrubward x) {
        int entries = x.board(9);
        for (int entry = 0; entry < entries; entry++) {
            for (int what = 0; what <= 2; what++) {
                told.append(' ').append(x.ofEntry(entry, what));
            }
        }
        told.append(' ').append(x.wouldLeak(20)).append(' ').append(x.isSound() ? 1 : 0);
    }
}
