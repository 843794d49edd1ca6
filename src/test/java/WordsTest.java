/** Promises 3 to 5, 19 and 26: words that are written, read, hit by rays, and asked for. */
final class WordsTest {
    private static final Checks CHECKS = new Checks();
    private static final int[] NO_ADDRESS = {-1, 128, Integer.MIN_VALUE, Integer.MAX_VALUE};

    public static void main(String[] args) {
        promise03Write();
        promise03Mirrored();
        promise03Refuses();
        promise04Clean();
        promise04Mended();
        promise04Bad();
        promise04Poisoned();
        promise04Mirrored();
        promise04MirrorMended();
        promise04MirrorFails();
        promise04Refuses();
        promise05Ray();
        promise05Refuses();
        promise19OfWord();
        promise26WouldRead();
        CHECKS.end();
    }

    private static void promise03Write() {
        Scrubward x = new Scrubward();
        CHECKS.due("write(0, 5)", x.write(0, 5), 2565);
        CHECKS.due("write(127, 255)", x.write(127, 255), 1791);
        CHECKS.due("write(127, 0)", x.write(127, 0), 0);
        CHECKS.due("count", x.ofLine(0, 0, 0), 1);
        CHECKS.due("count", x.ofLine(1, 7, 0), 2);
        CHECKS.due("the other bank", x.ofWord(64, 0), 0);
        x.ray(0, 3);
        x.read(0);
        CHECKS.due("poisoned", x.ofWord(0, 2), 1);
        x.write(0, 9);
        CHECKS.due("poisoned", x.ofWord(0, 2), 0);
        CHECKS.due("read(0)", x.read(0), 9);
        x.stick(3, 1, true);
        x.stick(3, 0, false);
        CHECKS.due("write(3, 1)", x.write(3, 1), 1793 - 1 + 2);
        x.pass(3);
        x.write(8, 1);
        CHECKS.due("opened at tick 3", x.ofLine(0, 1, 2), 0);
        CHECKS.due("not opened", x.ofLine(0, 2, 2), 3);
        x.run(16, 2, 0, false, false);
        x.write(16, 1);
        CHECKS.due("drawn", x.board(16), 0);
        x.write(16, 1);
        CHECKS.due("drawn", x.board(16), 4);
    }

    private static void promise03Mirrored() {
        Scrubward x = new Scrubward();
        x.ray(73, 3);
        x.read(73);
        x.run(16, 20, 0, false, true);
        x.stick(73, 0, false);
        CHECKS.due("write(9, 77)", x.write(9, 77), 4685);
        CHECKS.due("there", x.ofWord(73, 0), 4684);
        CHECKS.due("poison there", x.ofWord(73, 2), 0);
        CHECKS.due("count here", x.ofLine(0, 1, 0), 1);
        CHECKS.due("count there", x.ofLine(1, 1, 0), 2);
        x.write(127, 1);
        CHECKS.due("here", x.ofWord(63, 0), 1793);
        x.write(64, 3);
        CHECKS.due("the first of bank 1: here", x.ofWord(0, 0), x.encode(3));
        x.write(0, 7);
        CHECKS.due("the first of bank 0: there", x.ofWord(64, 0), x.encode(7));
        x.retire(73, true);
        CHECKS.due("write(9, 0)", x.write(9, 0), 0);
        CHECKS.due("retired there", x.ofWord(73, 0), 4684);
        CHECKS.due("not opened there", x.ofLine(1, 1, 0), 2);
        x.spare(1, 7);
        x.write(63, 3);
        CHECKS.due("on the spare there", x.ofWord(127, 0), x.encode(3));
        CHECKS.due("the spare is opened", x.ofLine(1, 8, 0), 1);
    }

    private static void promise03Refuses() {
        Scrubward x = new Scrubward();
        x.retire(5, true);
        for (int address : NO_ADDRESS) {
            CHECKS.dueIndex(x, "write(" + address + ", -1)", () -> x.write(address, -1));
        }
        CHECKS.dueArgument(x, "write(5, 256)", () -> x.write(5, 256));
        CHECKS.dueArgument(x, "write(4, 256)", () -> x.write(4, 256));
        CHECKS.dueArgument(x, "write(4, -1)", () -> x.write(4, -1));
        CHECKS.dueArgument(x, "write(4, MIN)", () -> x.write(4, Integer.MIN_VALUE));
        CHECKS.dueState(x, "write(5, 255)", () -> x.write(5, 255));
        x.retire(5, false);
        CHECKS.due("write(5, 255)", x.write(5, 255), 1791);
    }

    private static void promise04Clean() {
        Scrubward x = new Scrubward();
        x.write(70, 200);
        x.pass(2);
        CHECKS.due("read(70)", x.read(70), 200);
        CHECKS.due("read(127)", x.read(127), 0);
        CHECKS.due("count", x.ofLine(1, 0, 0), 2);
        CHECKS.due("opened", x.ofLine(1, 0, 2), 0);
        CHECKS.due("entries", x.board(9), 0);
        x.run(16, 3, 0, false, false);
        x.read(70);
        CHECKS.due("drawn", x.board(16), 2);
        CHECKS.due("hammered: bit 128 % 13 of place 5", x.ofWord(64 + 8 + 5, 0), 1 << 11);
    }

    private static void promise04Mended() {
        Scrubward x = new Scrubward();
        x.write(0, 5);
        x.ray(0, 1);
        x.pass(3);
        CHECKS.due("read(0)", x.read(0), 5);
        CHECKS.due("not written back", x.ofWord(0, 0), 2564);
        dueEntry(x, 0, 0, 0, 3);
        x.run(16, 20, 0, true, false);
        CHECKS.due("read(0)", x.read(0), 5);
        CHECKS.due("written back", x.ofWord(0, 0), 2565);
        CHECKS.due("opened twice and once to write", x.ofLine(0, 0, 0), 3);
        dueEntry(x, 1, 0, 0, 3);
        CHECKS.due("mended", x.board(10), 2);
        CHECKS.due("read(0)", x.read(0), 5);
        CHECKS.due("entries", x.board(9), 2);
        x.stick(0, 12, true);
        x.read(0);
        CHECKS.due("stuck, though it is written back", x.ofWord(0, 0), 2565 + 4096);
        dueEntry(x, 2, 0, 12, 3);
        CHECKS.due("poisoned", x.board(12), 0);
    }

    private static void promise04Bad() {
        Scrubward x = new Scrubward();
        x.run(16, 20, 0, true, false);
        x.write(64, 5);
        x.write(0, 5);
        x.ray(0, 3);
        CHECKS.due("read(0)", x.read(0), -1);
        dueEntry(x, 0, 0, -1, 0);
        CHECKS.due("poisoned", x.ofWord(0, 2), 1);
        CHECKS.due("word", x.ofWord(0, 0), 2566);
        CHECKS.due("bad", x.board(11), 1);
        CHECKS.due("mended", x.board(10), 0);
        CHECKS.due("the other bank is not opened", x.ofLine(1, 0, 0), 1);
    }

    private static void promise04Poisoned() {
        Scrubward x = new Scrubward();
        x.run(16, 20, 0, true, false);
        x.ray(0, 3);
        x.read(0);
        x.ray(0, 1);
        CHECKS.due("poisoned and mended: read(0)", x.read(0), -1);
        CHECKS.due("not written back", x.ofWord(0, 0), 2);
        x.ray(0, 2);
        CHECKS.due("poisoned and clean: read(0)", x.read(0), -1);
        x.ray(0, 3);
        CHECKS.due("poisoned and bad: read(0)", x.read(0), -1);
        CHECKS.due("entries", x.board(9), 1);
        CHECKS.due("count", x.ofLine(0, 0, 0), 4);
        CHECKS.due("poisoned", x.board(12), 1);
    }

    private static void promise04Mirrored() {
        Scrubward x = new Scrubward();
        x.run(16, 20, 0, false, true);
        x.write(9, 77);
        x.ray(9, 6);
        CHECKS.due("read(9)", x.read(9), 77);
        CHECKS.due("put here", x.ofWord(9, 0), 4685);
        CHECKS.due("opened here once for it", x.ofLine(0, 1, 0), 2);
        CHECKS.due("opened there", x.ofLine(1, 1, 0), 2);
        CHECKS.due("entries", x.board(9), 1);
        dueEntry(x, 0, 9, -1, 0);
        CHECKS.due("read(9)", x.read(9), 77);
        CHECKS.due("a clean word opens nothing there", x.ofLine(1, 1, 0), 2);
        x.ray(9, 1);
        CHECKS.due("read(9)", x.read(9), 77);
        CHECKS.due("a mended word opens nothing there", x.ofLine(1, 1, 0), 2);
        x.write(10, 4);
        x.run(16, 20, 0, false, false);
        x.ray(10, 6);
        x.read(10);
        x.ray(10, 6);
        CHECKS.due("poisoned", x.ofWord(10, 2), 1);
        x.run(16, 20, 0, false, true);
        x.write(74, 4);
        x.run(16, 20, 0, false, false);
        x.ray(10, 6);
        x.read(10);
        x.ray(10, 6);
        x.run(16, 20, 0, false, true);
        int entries = x.board(9);
        CHECKS.due("poisoned, though clean: read(10)", x.read(10), 4);
        CHECKS.due("poison is gone", x.ofWord(10, 2), 0);
        CHECKS.due("entries", x.board(9), entries);
        x.stick(10, 0, true);
        x.stick(10, 1, true);
        CHECKS.due("stuck here: read(10)", x.read(10), 4);
        CHECKS.due("stuck here", x.ofWord(10, 0), x.encode(4) | 3);
        CHECKS.due("poison is gone", x.ofWord(10, 2), 0);
    }

    private static void promise04MirrorMended() {
        Scrubward x = new Scrubward();
        x.run(16, 20, 0, false, true);
        x.write(73, 77);
        x.ray(73, 6);
        x.ray(9, 16);
        CHECKS.due("read(73)", x.read(73), 77);
        dueEntry(x, 0, 73, -1, 0);
        dueEntry(x, 1, 9, 4, 0);
        CHECKS.due("not written back there", x.ofWord(9, 0), 4685 ^ 16);
        CHECKS.due("put here", x.ofWord(73, 0), 4685);
        x.run(16, 20, 0, true, true);
        x.ray(73, 6);
        CHECKS.due("read(73)", x.read(73), 77);
        CHECKS.due("written back there", x.ofWord(9, 0), 4685);
        CHECKS.due("opened there once for it", x.ofLine(0, 1, 0), 3);
        CHECKS.due("entries", x.board(9), 4);
    }

    private static void promise04MirrorFails() {
        Scrubward x = new Scrubward();
        x.run(16, 20, 0, true, true);
        x.write(9, 77);
        x.ray(9, 6);
        x.ray(73, 6);
        CHECKS.due("both are bad: read(9)", x.read(9), -1);
        CHECKS.due("the one there is not logged", x.board(9), 1);
        CHECKS.due("and not poisoned", x.ofWord(73, 2), 0);
        CHECKS.due("poisoned here", x.ofWord(9, 2), 1);
        CHECKS.due("opened there", x.ofLine(1, 1, 0), 2);
        CHECKS.due("bad there, poisoned here: read(73)", x.read(73), -1);
        CHECKS.due("poisoned there", x.ofWord(73, 2), 1);
        CHECKS.due("entries", x.board(9), 2);
        x.ray(73, 6);
        CHECKS.due("clean, but poisoned there: read(9)", x.read(9), -1);
        CHECKS.due("entries", x.board(9), 2);
        x.write(1, 3);
        x.ray(1, 6);
        x.retire(65, true);
        int count = x.ofLine(1, 0, 0);
        CHECKS.due("retired there: read(1)", x.read(1), -1);
        CHECKS.due("not opened there", x.ofLine(1, 0, 0), count);
        CHECKS.due("poisoned", x.ofWord(1, 2), 1);
    }

    private static void promise04Refuses() {
        Scrubward x = new Scrubward();
        x.retire(5, true);
        for (int address : NO_ADDRESS) {
            CHECKS.dueIndex(x, "read(" + address + ")", () -> x.read(address));
        }
        CHECKS.dueState(x, "read(5)", () -> x.read(5));
        x.retire(5, false);
        CHECKS.due("read(5)", x.read(5), 0);
    }

    private static void promise05Ray() {
        Scrubward x = new Scrubward();
        x.write(0, 5);
        CHECKS.due("ray(0, 1)", x.ray(0, 1), 2564);
        CHECKS.due("ray(0, 8191)", x.ray(0, 8191), 2564 ^ 8191);
        CHECKS.due("not opened", x.ofLine(0, 0, 0), 1);
        x.stick(127, 0, true);
        x.stick(127, 1, false);
        CHECKS.due("ray(127, 7)", x.ray(127, 7), 5);
        x.ray(0, 8191);
        x.ray(0, 2);
        x.read(0);
        x.ray(0, 3);
        CHECKS.due("poison stays", x.ofWord(0, 2), 1);
        x.retire(1, true);
        CHECKS.due("of a retired one: ray(1, 4)", x.ray(1, 4), 4);
        x.run(16, 20, 0, false, true);
        x.ray(20, 1);
        CHECKS.due("not mirrored", x.ofWord(84, 0), 0);
    }

    private static void promise05Refuses() {
        Scrubward x = new Scrubward();
        for (int address : NO_ADDRESS) {
            CHECKS.dueIndex(x, "ray(" + address + ", 0)", () -> x.ray(address, 0));
        }
        for (int bits : new int[] {0, -1, 8192, Integer.MIN_VALUE, Integer.MAX_VALUE}) {
            CHECKS.dueArgument(x, "ray(0, " + bits + ")", () -> x.ray(0, bits));
        }
        x.code(4, 4);
        CHECKS.dueArgument(x, "ray(0, 256)", () -> x.ray(0, 256));
        CHECKS.due("ray(0, 255)", x.ray(0, 255), 255);
    }

    private static void promise19OfWord() {
        Scrubward x = new Scrubward();
        x.write(9, 1);
        dueWord(x, 9, 1793, 0, 0, 0, 1, 0, 0);
        x.ray(9, 4);
        dueWord(x, 9, 1797, 1, 0, 0, 1, 0, 0);
        x.ray(9, 8);
        x.read(9);
        dueWord(x, 9, 1805, 2, 1, 0, 1, 0, 0);
        x.retire(9, true);
        x.stick(9, 0, true);
        x.stick(9, 0, true);
        x.weak(9, 0, 1);
        x.weak(9, 0, 2);
        x.weak(9, 1, 3);
        dueWord(x, 9, 1805, 2, 1, 1, 1, 2, 3);
        dueWord(x, 8, 0, 0, 0, 0, 1, 0, 0);
        dueWord(x, 73, 0, 0, 0, 0, 1, 0, 0);
        x.spare(0, 1);
        dueWord(x, 9, 1805, 2, 1, 1, 8, 0, 0);
        for (int address : NO_ADDRESS) {
            CHECKS.dueIndex(x, "ofWord(" + address + ", 7)", () -> x.ofWord(address, 7));
        }
        for (int what : new int[] {-1, 7, Integer.MIN_VALUE, Integer.MAX_VALUE}) {
            CHECKS.dueArgument(x, "ofWord(0, " + what + ")", () -> x.ofWord(0, what));
        }
    }

    private static void promise26WouldRead() {
        Scrubward x = new Scrubward();
        x.write(9, 77);
        CHECKS.due("clean: wouldRead(9)", x.wouldRead(9), 77);
        x.ray(9, 2);
        CHECKS.due("mended: wouldRead(9)", x.wouldRead(9), 77);
        CHECKS.due("nothing is logged", x.board(9), 0);
        x.ray(9, 4);
        CHECKS.due("bad: wouldRead(9)", x.wouldRead(9), -1);
        CHECKS.due("nothing is poisoned", x.board(12), 0);
        CHECKS.due("nothing is opened", x.ofLine(0, 1, 0), 1);
        x.ray(73, 1);
        x.run(16, 20, 0, false, true);
        CHECKS.due("mended there: wouldRead(9)", x.wouldRead(9), 0);
        x.ray(73, 2);
        CHECKS.due("bad there: wouldRead(9)", x.wouldRead(9), -1);
        x.read(73);
        x.ray(73, 3);
        CHECKS.due("poisoned there: wouldRead(9)", x.wouldRead(9), -1);
        x.write(73, 8);
        x.ray(9, 3);
        x.retire(73, true);
        CHECKS.due("retired there: wouldRead(9)", x.wouldRead(9), -1);
        CHECKS.due("retired: wouldRead(73)", x.wouldRead(73), -2);
        x.retire(73, false);
        CHECKS.due("clean there: wouldRead(9)", x.wouldRead(9), 8);
        CHECKS.due("read(9)", x.read(9), 8);
        for (int address : NO_ADDRESS) {
            CHECKS.dueIndex(x, "wouldRead(" + address + ")", () -> x.wouldRead(address));
        }
    }

    private static void dueWord(Scrubward x, int address, int... wants) {
        for (int what = 0; what < wants.length; what++) {
            CHECKS.due("ofWord(" + address + ", " + what + ")", x.ofWord(address, what), wants[what]);
        }
    }

    private static void dueEntry(Scrubward x, int entry, int address, int bit, int tick) {
        CHECKS.due("address of entry " + entry, x.ofEntry(entry, 0), address);
        CHECKS.due("bit of entry " + entry, x.ofEntry(entry, 1), bit);
        CHECKS.due("tick of entry " + entry, x.ofEntry(entry, 2), tick);
    }
}
