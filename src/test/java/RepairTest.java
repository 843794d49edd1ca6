/** Promises 10, 11, 20, 24, 25 and 27: spares, retired words, lines, health, and what is told of rows. */
final class RepairTest {
    private static final Checks CHECKS = new Checks();
    private static final int[] NO_BANK = {-1, 2, Integer.MIN_VALUE, Integer.MAX_VALUE};
    private static final int[] NO_ROW = {-1, 8, Integer.MIN_VALUE, Integer.MAX_VALUE};

    public static void main(String[] args) {
        promise10Spare();
        promise10WhatIsMoved();
        promise10Refuses();
        promise11Retire();
        promise11Refuses();
        promise20OfLine();
        promise24Health();
        promise25Tell();
        promise27WouldSpare();
        promise27TiesAndNone();
        CHECKS.end();
    }

    private static void promise10Spare() {
        Scrubward x = new Scrubward();
        CHECKS.due("spare(0, 7)", x.spare(0, 7), 1);
        CHECKS.due("line", x.ofWord(56, 4), 8);
        CHECKS.due("the last of the row", x.ofWord(63, 4), 8);
        CHECKS.due("the other bank", x.ofWord(120, 4), 7);
        CHECKS.due("spare(0, 0)", x.spare(0, 0), 2);
        CHECKS.due("line", x.ofWord(0, 4), 9);
        CHECKS.due("spare(1, 3)", x.spare(1, 3), 1);
        CHECKS.due("spare(1, 3)", x.spare(1, 3), 2);
        CHECKS.due("line", x.ofWord(64 + 24, 4), 9);
        CHECKS.due("the first spare is for no row", x.ofLine(1, 8, 1), -1);
        CHECKS.due("nor is the first line", x.ofLine(1, 3, 1), -1);
        CHECKS.due("isSound()", x.isSound() ? 1 : 0, 1);
    }

    private static void promise10WhatIsMoved() {
        Scrubward x = new Scrubward();
        for (int place = 0; place < 8; place++) {
            x.write(8 + place, 17 * place + 1);
        }
        x.ray(9, 1);
        x.ray(10, 3);
        x.ray(11, 3);
        x.read(11);
        x.ray(11, 3);
        x.ray(12, 3);
        x.retire(12, true);
        x.stick(13, 1, false);
        x.hammer(0, 1, 3);
        int entries = x.board(9);
        CHECKS.due("spare(0, 1)", x.spare(0, 1), 1);
        CHECKS.due("clean", x.ofWord(8, 0), x.encode(1));
        CHECKS.due("mended", x.ofWord(9, 0), x.encode(18));
        CHECKS.due("bad as it is", x.ofWord(10, 0), x.encode(35) ^ 3);
        CHECKS.due("and poisoned", x.ofWord(10, 2), 1);
        CHECKS.due("poison stays", x.ofWord(11, 2), 1);
        CHECKS.due("though it is clean", x.ofWord(11, 0), x.encode(52));
        CHECKS.due("also a retired one", x.ofWord(12, 2), 1);
        CHECKS.due("retired", x.ofWord(12, 3), 1);
        CHECKS.due("bad as it is", x.ofWord(12, 0), x.encode(69) ^ 3);
        CHECKS.due("stuck at 0 is mended", x.ofWord(13, 0), x.encode(86));
        CHECKS.due("the last place", x.ofWord(15, 0), x.encode(120));
        CHECKS.due("not poisoned", x.ofWord(9, 2), 0);
        CHECKS.due("nothing is logged", x.board(9), entries);
        CHECKS.due("nothing is opened", x.ofLine(0, 1, 0), 12);
        CHECKS.due("nothing is opened", x.ofLine(0, 8, 0), 0);
        CHECKS.due("the old one stays with all that is in it", x.ofLine(0, 1, 4), 4);
        x.hammer(0, 7, 20);
        CHECKS.due("the spare is next to the line 7", x.ofLine(0, 8, 4), 3);
    }

    private static void promise10Refuses() {
        Scrubward x = new Scrubward();
        x.spare(0, 1);
        x.spare(0, 2);
        CHECKS.dueState(x, "spare(0, 1)", () -> x.spare(0, 1));
        CHECKS.dueState(x, "spare(0, 3)", () -> x.spare(0, 3));
        for (int far : NO_BANK) {
            CHECKS.dueIndex(x, "spare(" + far + ", 0)", () -> x.spare(far, 0));
        }
        for (int far : NO_ROW) {
            CHECKS.dueIndex(x, "spare(0, " + far + ")", () -> x.spare(0, far));
            CHECKS.dueIndex(x, "spare(1, " + far + ")", () -> x.spare(1, far));
        }
        CHECKS.due("spare(1, 1)", x.spare(1, 1), 1);
    }

    private static void promise11Retire() {
        Scrubward x = new Scrubward();
        CHECKS.due("retire(0, true)", x.retire(0, true), 1);
        CHECKS.due("retire(127, true)", x.retire(127, true), 2);
        CHECKS.due("again", x.retire(127, true), 2);
        CHECKS.due("retired", x.ofWord(127, 3), 1);
        CHECKS.due("board(13)", x.board(13), 2);
        CHECKS.due("retire(0, false)", x.retire(0, false), 1);
        CHECKS.due("again", x.retire(0, false), 1);
        CHECKS.due("read(0)", x.read(0), 0);
        CHECKS.due("retire(127, false)", x.retire(127, false), 0);
        CHECKS.due("nobody is refused by it", x.board(17), 0);
        x.ray(5, 3);
        x.read(5);
        x.retire(5, true);
        CHECKS.due("both", x.ofWord(5, 2), 1);
        x.retire(5, false);
        CHECKS.due("poison stays", x.ofWord(5, 2), 1);
    }

    private static void promise11Refuses() {
        Scrubward x = new Scrubward();
        for (int far : new int[] {-1, 128, Integer.MIN_VALUE, Integer.MAX_VALUE}) {
            CHECKS.dueIndex(x, "retire(" + far + ", true)", () -> x.retire(far, true));
            CHECKS.dueIndex(x, "retire(" + far + ", false)", () -> x.retire(far, false));
        }
    }

    private static void promise20OfLine() {
        Scrubward x = new Scrubward();
        x.stick(64 + 16, 0, true);
        x.stick(64 + 23, 0, true);
        x.stick(64 + 23, 0, false);
        x.ray(64 + 17, 3);
        x.pass(3);
        x.read(64 + 16);
        x.read(64 + 17);
        x.pass(2);
        dueLine(x, 1, 2, 2, 2, 2, 3, 2);
        dueLine(x, 1, 1, 0, 1, 5, 0, 0);
        dueLine(x, 0, 2, 0, 2, 5, 0, 0);
        dueLine(x, 1, 9, 0, -1, 5, 0, 0);
        x.spare(1, 2);
        dueLine(x, 1, 2, 2, -1, 2, 3, 2);
        dueLine(x, 1, 8, 0, 2, 5, 0, 1);
        for (int far : NO_BANK) {
            CHECKS.dueIndex(x, "ofLine(" + far + ", 0, 5)", () -> x.ofLine(far, 0, 5));
        }
        for (int far : new int[] {-1, 10, Integer.MIN_VALUE, Integer.MAX_VALUE}) {
            CHECKS.dueIndex(x, "ofLine(0, " + far + ", 5)", () -> x.ofLine(0, far, 5));
        }
        for (int far : new int[] {-1, 5, Integer.MIN_VALUE, Integer.MAX_VALUE}) {
            CHECKS.dueArgument(x, "ofLine(1, 9, " + far + ")", () -> x.ofLine(1, 9, far));
        }
    }

    private static void dueLine(Scrubward x, int bank, int line, int... wants) {
        for (int what = 0; what < wants.length; what++) {
            String call = "ofLine(" + bank + ", " + line + ", " + what + ")";
            CHECKS.due(call, x.ofLine(bank, line, what), wants[what]);
        }
    }

    private static void promise24Health() {
        Scrubward x = new Scrubward();
        CHECKS.dueTrue("health(0) is 1", x.health(0) == 1.0);
        x.ray(0, 1);
        CHECKS.dueTrue("mended is not clean", x.health(0) == 63.0 / 64.0);
        x.ray(63, 3);
        CHECKS.dueTrue("bad", x.health(0) == 62.0 / 64.0);
        x.read(63);
        CHECKS.dueTrue("bad and poisoned", x.health(0) == 62.0 / 64.0);
        x.ray(63, 3);
        CHECKS.dueTrue("clean and poisoned", x.health(0) == 62.0 / 64.0);
        x.retire(5, true);
        CHECKS.dueTrue("retired ones are as the others", x.health(0) == 62.0 / 64.0);
        CHECKS.dueTrue("health(1)", x.health(1) == 1.0);
        x.ray(64, 1);
        CHECKS.dueTrue("health(1)", x.health(1) == 63.0 / 64.0);
        CHECKS.dueTrue("health(0)", x.health(0) == 62.0 / 64.0);
        x.spare(1, 0);
        CHECKS.dueTrue("old lines are not asked", x.health(1) == 1.0);
        for (int address = 0; address < 64; address++) {
            x.ray(address, 4096);
        }
        CHECKS.dueTrue("none is left", x.health(0) == 0.0);
        for (int far : NO_BANK) {
            CHECKS.dueIndex(x, "health(" + far + ")", () -> x.health(far));
        }
    }

    private static void promise25Tell() {
        Scrubward x = new Scrubward();
        CHECKS.dueText("tell(0, 0)", x.tell(0, 0), "........");
        x.ray(64 + 56, 1);
        x.ray(64 + 57, 3);
        x.ray(64 + 58, 3);
        x.read(64 + 58);
        x.ray(64 + 59, 3);
        x.read(64 + 59);
        x.ray(64 + 59, 3);
        x.retire(64 + 60, true);
        x.ray(64 + 61, 3);
        x.read(64 + 61);
        x.retire(64 + 61, true);
        x.ray(64 + 62, 1);
        x.retire(64 + 62, true);
        CHECKS.dueText("tell(1, 7)", x.tell(1, 7), "mBppxxx.");
        CHECKS.dueText("tell(0, 7)", x.tell(0, 7), "........");
        CHECKS.dueText("tell(1, 6)", x.tell(1, 6), "........");
        for (int far : NO_BANK) {
            CHECKS.dueIndex(x, "tell(" + far + ", 0)", () -> x.tell(far, 0));
        }
        for (int far : NO_ROW) {
            CHECKS.dueIndex(x, "tell(0, " + far + ")", () -> x.tell(0, far));
        }
    }

    private static void promise27WouldSpare() {
        Scrubward x = new Scrubward();
        CHECKS.due("all are clean: wouldSpare(0)", x.wouldSpare(0), -1);
        x.ray(0, 1);
        CHECKS.due("the first row: wouldSpare(0)", x.wouldSpare(0), 0);
        x.ray(0, 1);
        x.ray(58, 1);
        CHECKS.due("wouldSpare(0)", x.wouldSpare(0), 7);
        CHECKS.due("wouldSpare(1)", x.wouldSpare(1), -1);
        x.ray(18, 1);
        CHECKS.due("the smallest number: wouldSpare(0)", x.wouldSpare(0), 2);
        x.ray(59, 3);
        CHECKS.due("the most: wouldSpare(0)", x.wouldSpare(0), 7);
        x.ray(64 + 40, 1);
        CHECKS.due("wouldSpare(1)", x.wouldSpare(1), 5);
        x.spare(1, 5);
        CHECKS.due("wouldSpare(1)", x.wouldSpare(1), -1);
        x.ray(64 + 41, 1);
        CHECKS.due("wouldSpare(1)", x.wouldSpare(1), 5);
        x.spare(1, 0);
        CHECKS.due("both are used: wouldSpare(1)", x.wouldSpare(1), -1);
        for (int far : NO_BANK) {
            CHECKS.dueIndex(x, "wouldSpare(" + far + ")", () -> x.wouldSpare(far));
        }
    }

    private static void promise27TiesAndNone() {
        Scrubward x = new Scrubward();
        x.ray(9, 1);
        x.ray(24, 1);
        x.ray(40, 1);
        x.stick(25, 0, false);
        x.stick(41, 0, false);
        CHECKS.due("more stuck, then the smaller: wouldSpare(0)", x.wouldSpare(0), 3);
        x.stick(42, 0, false);
        CHECKS.due("more stuck: wouldSpare(0)", x.wouldSpare(0), 5);
        x.stick(56, 0, false);
        x.stick(56, 1, false);
        x.stick(56, 2, false);
        x.stick(56, 3, false);
        CHECKS.due("clean rows do not count: wouldSpare(0)", x.wouldSpare(0), 5);
        x.ray(10, 3);
        CHECKS.due("the most: wouldSpare(0)", x.wouldSpare(0), 1);
        x.spare(0, 1);
        CHECKS.due("a bad one is not clean behind it: wouldSpare(0)", x.wouldSpare(0), 5);
    }
}
