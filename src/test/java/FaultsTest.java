/** Promises 6 to 9, 12 and 28: stuck and weak cells, hammered rows, how it is run, ticks. */
final class FaultsTest {
    private static final Checks CHECKS = new Checks();
    private static final int[] NO_ADDRESS = {-1, 128, Integer.MIN_VALUE, Integer.MAX_VALUE};

    public static void main(String[] args) {
        promise06Stick();
        promise06Refuses();
        promise07Weak();
        promise07Refuses();
        promise08Hammer();
        promise08HammeredLines();
        promise08FirstSpare();
        promise08TurnsBits();
        promise08Refuses();
        promise09Run();
        promise09Refuses();
        promise12Leaks();
        promise12Refreshes();
        promise12Patrol();
        promise12PatrolPasses();
        promise12OrderInATick();
        promise12Refuses();
        promise28WouldLeak();
        promise28Refuses();
        CHECKS.end();
    }

    private static void promise06Stick() {
        Scrubward x = new Scrubward();
        CHECKS.due("stick(9, 3, true)", x.stick(9, 3, true), 1);
        CHECKS.due("from when it is told", x.ofWord(9, 0), 8);
        CHECKS.due("stick(9, 12, true)", x.stick(9, 12, true), 2);
        CHECKS.due("both", x.ofWord(9, 0), 8 + 4096);
        CHECKS.due("stick(9, 3, false)", x.stick(9, 3, false), 3);
        CHECKS.due("the last told one", x.ofWord(9, 0), 4096);
        CHECKS.due("write(9, 8)", x.write(9, 8), x.encode(8) - 8 | 4096);
        CHECKS.due("not opened", x.ofLine(0, 2, 0), 0);
        CHECKS.due("stick(16, 0, false)", x.stick(16, 0, false), 4);
        CHECKS.due("of another word", x.ray(17, 1), 1);
        x.spare(0, 1);
        CHECKS.due("it belongs to the line", x.ray(9, 4096 + 8), x.ofWord(9, 0));
        CHECKS.due("none in the spare", x.ofWord(9, 5), 0);
        x.write(9, 0);
        CHECKS.due("stick(9, 0, true)", x.stick(9, 0, true), 5);
        CHECKS.due("on the spare", x.ofWord(9, 0), 1);
        CHECKS.due("old line", x.ofLine(0, 1, 3), 3);
        CHECKS.due("spare", x.ofLine(0, 8, 3), 1);
    }

    private static void promise06Refuses() {
        Scrubward x = new Scrubward();
        for (int i = 0; i < 23; i++) {
            CHECKS.due("stick", x.stick(i, 0, true), i + 1);
        }
        CHECKS.due("stick", x.stick(0, 0, true), 24);
        CHECKS.dueState(x, "stick(0, 0, false)", () -> x.stick(0, 0, false));
        CHECKS.dueState(x, "stick(127, 12, true)", () -> x.stick(127, 12, true));
        for (int address : NO_ADDRESS) {
            CHECKS.dueIndex(x, "stick(" + address + ", -1, true)", () -> x.stick(address, -1, true));
        }
        for (int bit : new int[] {-1, 13, Integer.MIN_VALUE, Integer.MAX_VALUE}) {
            CHECKS.dueArgument(x, "stick(0, " + bit + ", true)", () -> x.stick(0, bit, true));
        }
        CHECKS.due("weak ones are counted alone", x.weak(0, 0, 1), 1);
    }

    private static void promise07Weak() {
        Scrubward x = new Scrubward();
        x.write(3, 200);
        CHECKS.due("weak(3, 7, 5)", x.weak(3, 7, 5), 1);
        CHECKS.due("weak(3, 7, 9)", x.weak(3, 7, 9), 2);
        CHECKS.due("weak(3, 6, 60)", x.weak(3, 6, 60), 3);
        CHECKS.due("weak(3, 0, 1)", x.weak(3, 0, 1), 4);
        CHECKS.due("nothing leaks yet", x.ofWord(3, 0), 456);
        CHECKS.due("weak ones", x.board(15), 4);
        CHECKS.due("stuck ones", x.board(14), 0);
        CHECKS.due("in the word", x.ofWord(3, 6), 4);
        x.spare(0, 0);
        CHECKS.due("in the spare", x.ofWord(3, 6), 0);
        x.pass(15);
        CHECKS.due("the spare does not leak", x.ofWord(3, 0), 456);
        CHECKS.due("the old line does", x.ofLine(0, 0, 4), 1);
    }

    private static void promise07Refuses() {
        Scrubward x = new Scrubward();
        for (int i = 0; i < 24; i++) {
            CHECKS.due("weak", x.weak(i % 5, 1, 60), i + 1);
        }
        CHECKS.dueState(x, "weak(0, 0, 1)", () -> x.weak(0, 0, 1));
        for (int address : NO_ADDRESS) {
            CHECKS.dueIndex(x, "weak(" + address + ", -1, 0)", () -> x.weak(address, -1, 0));
        }
        for (int bit : new int[] {-1, 13, Integer.MIN_VALUE, Integer.MAX_VALUE}) {
            CHECKS.dueArgument(x, "weak(0, " + bit + ", 1)", () -> x.weak(0, bit, 1));
        }
        for (int span : new int[] {0, 61, -1, Integer.MIN_VALUE, Integer.MAX_VALUE}) {
            CHECKS.dueArgument(x, "weak(0, 0, " + span + ")", () -> x.weak(0, 0, span));
        }
        CHECKS.due("stuck ones are counted alone", x.stick(0, 0, true), 1);
    }

    private static void promise08Hammer() {
        Scrubward x = new Scrubward();
        x.pass(2);
        CHECKS.due("hammer(0, 3, 1)", x.hammer(0, 3, 1), 1);
        CHECKS.due("hammer(0, 3, 18)", x.hammer(0, 3, 18), 19);
        CHECKS.due("drawn", x.board(16), 0);
        CHECKS.due("opened", x.ofLine(0, 3, 2), 0);
        CHECKS.due("not opened", x.ofLine(0, 2, 2), 2);
        CHECKS.due("hammer(0, 3, 1)", x.hammer(0, 3, 1), 20);
        CHECKS.due("drawn", x.board(16), 4);
        CHECKS.due("below: bit 128 % 13 of place 5", x.ofWord(16 + 5, 0), 1 << 11);
        CHECKS.due("above: bit 116 % 13 of place 211 % 8", x.ofWord(32 + 3, 0), 1 << 12);
        CHECKS.due("hammered lines are not opened", x.ofLine(0, 2, 0), 0);
        CHECKS.due("hammered lines are not opened", x.ofLine(0, 4, 2), 2);
        CHECKS.due("hammer(0, 3, 100)", x.hammer(0, 3, 100), 120);
        CHECKS.due("drawn", x.board(16), 24);
        CHECKS.due("hammer(1, 7, 20)", x.hammer(1, 7, 20), 20);
        CHECKS.due("the spare is hammered, too", x.ofLine(1, 8, 4), 1);
        CHECKS.due("the other spare is not", x.ofLine(1, 9, 4), 0);
        CHECKS.due("nor is the other bank", x.ofLine(0, 8, 4), 0);
    }

    private static void promise08HammeredLines() {
        Scrubward x = new Scrubward();
        x.run(16, 2, 0, false, true);
        x.hammer(1, 0, 2);
        CHECKS.due("one neighbour", x.board(16), 2);
        CHECKS.due("of the same bank", x.ofLine(1, 1, 4), 1);
        CHECKS.due("not of the other one", x.ofLine(0, 9, 4), 0);
        CHECKS.due("nor mirrored", x.ofLine(0, 0, 0), 0);
        x.spare(0, 0);
        x.spare(0, 0);
        CHECKS.due("hammer on the last line", x.hammer(0, 0, 2), 2);
        CHECKS.due("one neighbour", x.board(16), 4);
        CHECKS.due("which is the other spare", x.ofLine(0, 8, 4), 1);
        CHECKS.due("not the line of the other bank", x.ofLine(1, 0, 4), 0);
        CHECKS.due("the old line is not opened", x.ofLine(0, 0, 0), 0);
    }

    private static void promise08FirstSpare() {
        Scrubward x = new Scrubward();
        x.run(16, 2, 0, false, false);
        x.spare(1, 3);
        x.hammer(1, 3, 2);
        CHECKS.due("two neighbours", x.board(16), 4);
        CHECKS.due("the line 7", x.ofLine(1, 7, 4), 1);
        CHECKS.due("the other spare", x.ofLine(1, 9, 4), 1);
    }

    /** The first drawn bit of a line is the bit 128 % 13 of the place 5. */
    private static void promise08TurnsBits() {
        Scrubward x = new Scrubward();
        x.run(16, 2, 0, false, false);
        x.ray(8 + 5, 1 << 11);
        x.hammer(0, 0, 2);
        CHECKS.due("a bit that is 1 is turned to 0", x.ofWord(8 + 5, 0), 0);
        Scrubward y = new Scrubward();
        y.run(16, 2, 0, false, false);
        y.stick(8 + 5, 11, false);
        y.hammer(0, 0, 2);
        CHECKS.due("a stuck bit is not turned", y.ofWord(8 + 5, 0), 0);
        CHECKS.due("though numbers are drawn for it", y.board(16), 2);
        Scrubward z = new Scrubward();
        z.code(4, 4);
        z.run(16, 2, 0, false, false);
        z.hammer(0, 0, 2);
        CHECKS.due("of 8 bits it is the bit 128 % 8", z.ofWord(8 + 5, 0), 1);
    }

    private static void promise08Refuses() {
        Scrubward x = new Scrubward();
        for (int far : new int[] {-1, 2, Integer.MIN_VALUE, Integer.MAX_VALUE}) {
            CHECKS.dueIndex(x, "hammer(" + far + ", 0, 0)", () -> x.hammer(far, 0, 0));
        }
        for (int far : new int[] {-1, 8, Integer.MIN_VALUE, Integer.MAX_VALUE}) {
            CHECKS.dueIndex(x, "hammer(0, " + far + ", 0)", () -> x.hammer(0, far, 0));
        }
        for (int far : new int[] {0, -1, 101, Integer.MIN_VALUE, Integer.MAX_VALUE}) {
            CHECKS.dueArgument(x, "hammer(1, 7, " + far + ")", () -> x.hammer(1, 7, far));
        }
    }

    private static void promise09Run() {
        Scrubward x = new Scrubward();
        CHECKS.due("run(1, 2, 8, true, false)", x.run(1, 2, 8, true, false), 0);
        dueRun(x, 1, 2, 8, 1, 0);
        CHECKS.due("run(100, 100, 0, false, true)", x.run(100, 100, 0, false, true), 8);
        dueRun(x, 100, 100, 0, 0, 1);
        CHECKS.due("run(5, 6, 7, true, true)", x.run(5, 6, 7, true, true), 0);
        dueRun(x, 5, 6, 7, 1, 1);
        x.hammer(0, 0, 5);
        x.run(5, 5, 7, true, true);
        x.hammer(0, 0, 4);
        CHECKS.due("the limit from now on", x.board(16), 0);
        x.hammer(0, 0, 1);
        CHECKS.due("the limit from now on", x.board(16), 2);
        x.pass(5);
        CHECKS.due("refreshed", x.ofLine(0, 0, 0), 0);
    }

    private static void dueRun(Scrubward x, int... wants) {
        for (int i = 0; i < wants.length; i++) {
            CHECKS.due("board(" + (3 + i) + ")", x.board(3 + i), wants[i]);
        }
    }

    private static void promise09Refuses() {
        Scrubward x = new Scrubward();
        for (int far : new int[] {0, -1, 101, Integer.MIN_VALUE, Integer.MAX_VALUE}) {
            CHECKS.dueArgument(x, "run(" + far + ", ..)", () -> x.run(far, 3, 4, true, true));
        }
        for (int far : new int[] {0, 1, -1, 101, Integer.MIN_VALUE, Integer.MAX_VALUE}) {
            CHECKS.dueArgument(x, "run(.., " + far + ", ..)", () -> x.run(3, far, 4, true, true));
        }
        for (int far : new int[] {-1, 9, Integer.MIN_VALUE, Integer.MAX_VALUE}) {
            CHECKS.dueArgument(x, "run(.., " + far + ", ..)", () -> x.run(3, 3, far, true, true));
        }
    }

    private static void promise12Leaks() {
        Scrubward x = new Scrubward();
        x.run(100, 20, 0, false, false);
        x.write(0, 255);
        x.weak(0, 0, 3);
        x.weak(0, 1, 4);
        x.weak(0, 1, 2);
        x.weak(0, 2, 60);
        x.stick(0, 3, true);
        x.weak(0, 3, 1);
        CHECKS.due("pass(1)", x.pass(1), 1);
        CHECKS.due("word", x.ofWord(0, 0), 1791);
        CHECKS.due("pass(1)", x.pass(1), 2);
        CHECKS.due("word", x.ofWord(0, 0), 1791 - 2);
        x.pass(1);
        CHECKS.due("word", x.ofWord(0, 0), 1791 - 3);
        x.ray(0, 1);
        x.pass(1);
        CHECKS.due("leaks again at once", x.ofWord(0, 0), 1791 - 3);
        x.read(1);
        x.write(0, 255);
        x.pass(1);
        CHECKS.due("begins anew as it is opened", x.ofWord(0, 0), 1791);
        x.pass(58);
        CHECKS.due("word", x.ofWord(0, 0), 1791 - 3);
        x.pass(1);
        CHECKS.due("the longest span", x.ofWord(0, 0), 1791 - 7);
        CHECKS.due("what a leak does is not logged", x.board(9), 0);
        x.pass(39);
        CHECKS.due("what leaked is not brought back", x.ofWord(0, 0), 1791 - 7);
        x.read(0);
        x.read(8);
        x.weak(64, 0, 5);
        x.ray(64, 1);
        x.pass(1);
        CHECKS.due("since it was refreshed last, though it was told later", x.ofWord(64, 0), 1);
        x.pass(1);
        CHECKS.due("tick 105 is 5 behind tick 100", x.ofWord(64, 0), 0);
    }

    private static void promise12Refreshes() {
        Scrubward x = new Scrubward();
        x.write(0, 3);
        x.weak(0, 0, 16);
        x.weak(0, 1, 17);
        x.hammer(1, 2, 5);
        x.pass(15);
        CHECKS.due("count", x.ofLine(1, 2, 0), 5);
        CHECKS.due("ticks since", x.ofLine(1, 9, 2), 15);
        CHECKS.due("word", x.ofWord(0, 0), x.encode(3));
        x.pass(1);
        CHECKS.due("count", x.ofLine(1, 2, 0), 0);
        CHECKS.due("ticks since", x.ofLine(1, 9, 2), 0);
        CHECKS.due("leaks ahead of the refresh", x.ofWord(0, 0), x.encode(3) - 1);
        x.pass(100);
        CHECKS.due("is refreshed ahead of its span", x.ofWord(0, 0), x.encode(3) - 1);
        CHECKS.due("ticks since 112", x.ofLine(0, 0, 2), 4);
        x.run(9, 20, 0, false, false);
        x.pass(1);
        CHECKS.due("tick 117 is a multiple of 9", x.ofLine(0, 0, 2), 0);
    }

    private static void promise12Patrol() {
        Scrubward x = new Scrubward();
        x.run(16, 20, 3, false, false);
        x.ray(1, 1);
        x.ray(2, 3);
        x.ray(3, 1);
        CHECKS.due("pass(1)", x.pass(1), 1);
        CHECKS.due("mended with demand off", x.ofWord(1, 0), 0);
        CHECKS.due("bad stays", x.ofWord(2, 0), 3);
        CHECKS.due("bad is poisoned", x.ofWord(2, 2), 1);
        CHECKS.due("three steps", x.ofWord(3, 0), 1);
        CHECKS.due("where it stands", x.board(8), 3);
        CHECKS.due("nothing is opened", x.ofLine(0, 0, 0), 0);
        CHECKS.due("entries", x.board(9), 2);
        CHECKS.due("entry", x.ofEntry(0, 0), 1);
        CHECKS.due("entry", x.ofEntry(0, 1), 0);
        CHECKS.due("entry", x.ofEntry(0, 2), 1);
        CHECKS.due("entry", x.ofEntry(1, 0), 2);
        CHECKS.due("entry", x.ofEntry(1, 1), -1);
        CHECKS.due("mended ever", x.board(10), 1);
        CHECKS.due("bad ever", x.board(11), 1);
        x.run(16, 20, 8, false, false);
        x.pass(15);
        CHECKS.due("where it stands", x.board(8), 123);
        x.ray(127, 4);
        x.ray(0, 4);
        x.pass(1);
        CHECKS.due("behind 127 again 0", x.board(8), 3);
        CHECKS.due("127 mended", x.ofWord(127, 0), 0);
        CHECKS.due("0 mended", x.ofWord(0, 0), 0);
        CHECKS.due("tick of the entry", x.ofEntry(4, 2), 17);
        x.run(16, 20, 0, false, false);
        x.ray(3, 2);
        x.pass(100);
        CHECKS.due("no steps", x.board(8), 3);
    }

    private static void promise12PatrolPasses() {
        Scrubward x = new Scrubward();
        x.ray(0, 3);
        x.read(0);
        x.ray(0, 2);
        x.ray(1, 1);
        x.retire(1, true);
        x.ray(2, 3);
        x.retire(2, true);
        x.ray(3, 8);
        x.stick(3, 3, true);
        x.run(16, 20, 4, true, true);
        x.pass(1);
        CHECKS.due("poisoned ones are not scrubbed", x.ofWord(0, 0), 1);
        CHECKS.due("retired ones are not scrubbed", x.ofWord(1, 0), 1);
        CHECKS.due("nor poisoned", x.ofWord(2, 2), 0);
        CHECKS.due("they use up a step", x.board(8), 4);
        CHECKS.due("entries", x.board(9), 2);
        CHECKS.due("stuck is logged", x.ofEntry(1, 0), 3);
        CHECKS.due("and stays stuck", x.ofWord(3, 0), 8);
    }

    private static void promise12OrderInATick() {
        Scrubward x = new Scrubward();
        x.run(1, 20, 8, false, false);
        x.write(5, 255);
        x.weak(5, 4, 1);
        x.pass(1);
        CHECKS.due("leaked, then mended by the patrol", x.ofWord(5, 0), 1791);
        CHECKS.due("entries", x.board(9), 1);
        CHECKS.due("bit", x.ofEntry(0, 1), 4);
        x.pass(1);
        CHECKS.due("leaked again one tick behind the refresh", x.ofWord(5, 0), 1791 - 16);
    }

    private static void promise12Refuses() {
        Scrubward x = new Scrubward();
        for (int far : new int[] {0, -1, 101, Integer.MIN_VALUE, Integer.MAX_VALUE}) {
            CHECKS.dueArgument(x, "pass(" + far + ")", () -> x.pass(far));
        }
        for (int i = 0; i < 19; i++) {
            CHECKS.due("pass(100)", x.pass(100), 100 * (i + 1));
        }
        x.pass(99);
        CHECKS.dueState(x, "pass(2)", () -> x.pass(2));
        CHECKS.dueState(x, "pass(100)", () -> x.pass(100));
        CHECKS.due("pass(1)", x.pass(1), 2000);
        CHECKS.dueState(x, "pass(1)", () -> x.pass(1));
        CHECKS.dueArgument(x, "pass(101)", () -> x.pass(101));
    }

    private static void promise28WouldLeak() {
        Scrubward x = new Scrubward();
        x.write(3, 200);
        x.weak(3, 7, 9);
        x.weak(3, 7, 5);
        x.weak(3, 6, 3);
        x.weak(3, 0, 1);
        x.weak(3, 3, 16);
        CHECKS.due("wouldLeak(2)", x.wouldLeak(2), 0);
        CHECKS.due("wouldLeak(3)", x.wouldLeak(3), 1);
        CHECKS.due("wouldLeak(4)", x.wouldLeak(4), 1);
        CHECKS.due("each bit once: wouldLeak(15)", x.wouldLeak(15), 2);
        CHECKS.due("ahead of the refresh: wouldLeak(16)", x.wouldLeak(16), 3);
        CHECKS.due("nothing is changed", x.ofWord(3, 0), 456);
        x.stick(3, 6, true);
        CHECKS.due("not stuck: wouldLeak(100)", x.wouldLeak(100), 2);
        x.run(15, 20, 8, false, false);
        CHECKS.due("refreshed: wouldLeak(100)", x.wouldLeak(100), 1);
        x.run(2, 20, 8, false, false);
        CHECKS.due("refreshed: wouldLeak(100)", x.wouldLeak(100), 0);
        x.run(16, 20, 0, false, false);
        x.spare(0, 0);
        CHECKS.due("on the old line: wouldLeak(5)", x.wouldLeak(5), 1);
        x.pass(4);
        CHECKS.due("wouldLeak(1)", x.wouldLeak(1), 1);
        x.pass(1);
        CHECKS.due("leaked: wouldLeak(1)", x.wouldLeak(1), 0);
        leakAtTheEnd();
    }

    private static void leakAtTheEnd() {
        Scrubward x = new Scrubward();
        x.run(99, 20, 0, false, false);
        for (int i = 0; i < 20; i++) {
            x.pass(100);
        }
        x.write(127, 1);
        x.weak(127, 0, 60);
        // TICK is 2000, 2079 is the next multiple of 99.
        CHECKS.due("wouldLeak(59)", x.wouldLeak(59), 0);
        CHECKS.due("also beyond 2000: wouldLeak(60)", x.wouldLeak(60), 1);
        x.run(59, 20, 0, false, false);
        CHECKS.due("refreshed at 2006, leaked never: wouldLeak(100)", x.wouldLeak(100), 0);
        x.run(60, 20, 0, false, false);
        CHECKS.due("refreshed at 2040: wouldLeak(99)", x.wouldLeak(99), 0);
        CHECKS.due("60 behind that: wouldLeak(100)", x.wouldLeak(100), 1);
    }

    private static void promise28Refuses() {
        Scrubward x = new Scrubward();
        for (int far : new int[] {0, -1, 101, Integer.MIN_VALUE, Integer.MAX_VALUE}) {
            CHECKS.dueArgument(x, "wouldLeak(" + far + ")", () -> x.wouldLeak(far));
        }
    }
}
