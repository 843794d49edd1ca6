/** Promises 1, 2 and 15 to 18: a new object, codes, columns, words and what they tell. */
final class CodesTest {
    private static final Checks CHECKS = new Checks();
    private static final int[] COLUMNS = {7, 11, 13, 14, 19, 21, 22, 25, 1, 2, 4, 8, 16};
    private static final int[] OUTSIDE = {-1, Integer.MIN_VALUE, Integer.MAX_VALUE};

    public static void main(String[] args) {
        promise01NewObject();
        promise02Widths();
        promise02WhatIsGone();
        promise02WhatStays();
        promise02StuckOrderStays();
        promise02Refuses();
        promise15Column();
        promise16Encode();
        promise17Decode();
        promise18Fooled();
        CHECKS.end();
    }

    private static void promise01NewObject() {
        Scrubward x = new Scrubward();
        int[] board = {0, 8, 5, 16, 20, 0, 0, 0, 0, 0, 0, 0, 0, 0, 0, 0, 0, 0};
        for (int what = 0; what < board.length; what++) {
            CHECKS.due("new board(" + what + ")", x.board(what), board[what]);
        }
        for (int address = 0; address < 128; address++) {
            Scrubward y = new Scrubward();
            for (int what = 0; what < 7; what++) {
                int want = what == 4 ? address / 8 % 8 : 0;
                CHECKS.due("new ofWord(" + address + ", " + what + ")", y.ofWord(address, what), want);
            }
            CHECKS.due("new wouldRead(" + address + ")", y.wouldRead(address), 0);
        }
        for (int bank = 0; bank < 2; bank++) {
            for (int line = 0; line < 10; line++) {
                for (int what = 0; what < 5; what++) {
                    int row = line < 8 ? line : -1;
                    CHECKS.due("new ofLine(" + bank + ", " + line + ", " + what + ")",
                            x.ofLine(bank, line, what), what == 1 ? row : 0);
                }
            }
        }
    }

    private static void promise02Widths() {
        int[] most = {4, 10, 10};
        for (int r = 4; r <= 6; r++) {
            for (int k = 4; k <= most[r - 4]; k++) {
                Scrubward x = new Scrubward();
                CHECKS.due("code(" + k + ", " + r + ")", x.code(k, r), k + r);
                CHECKS.due("board(1)", x.board(1), k);
                CHECKS.due("board(2)", x.board(2), r);
            }
        }
    }

    private static void promise02WhatIsGone() {
        Scrubward x = new Scrubward();
        x.write(5, 77);
        x.ray(9, 3);
        x.read(9);
        x.ray(64, 3);
        x.spare(1, 0);
        x.stick(0, 12, true);
        x.stick(1, 3, true);
        x.stick(1, 8, true);
        x.weak(2, 12, 5);
        x.weak(2, 7, 6);
        x.weak(2, 8, 6);
        CHECKS.due("old line", x.ofLine(1, 0, 4), 1);
        CHECKS.due("code(4, 4)", x.code(4, 4), 8);
        CHECKS.due("word", x.ofWord(5, 0), 0);
        CHECKS.due("word of a stuck bit that there is not any more", x.ofWord(0, 0), 0);
        CHECKS.due("word of a stuck bit", x.ofWord(1, 0), 8);
        CHECKS.due("stuck", x.board(14), 1);
        CHECKS.due("stuck in 1", x.ofWord(1, 5), 1);
        CHECKS.due("weak", x.board(15), 1);
        CHECKS.due("weak in 2", x.ofWord(2, 6), 1);
        CHECKS.due("poisoned", x.board(12), 0);
        CHECKS.due("entries", x.board(9), 0);
        CHECKS.due("old line", x.ofLine(1, 0, 4), 0);
        for (int line = 0; line < 10; line++) {
            CHECKS.due("count", x.ofLine(0, line, 0), 0);
        }
    }

    private static void promise02WhatStays() {
        Scrubward x = new Scrubward();
        x.run(7, 3, 2, true, true);
        x.pass(5);
        x.hammer(0, 1, 3);
        x.pass(1);
        x.spare(0, 4);
        x.retire(100, true);
        x.ray(1, 1);
        x.ray(2, 3);
        x.read(1);
        x.read(2);
        x.call();
        x.code(5, 5);
        int[] board = {6, 5, 5, 7, 3, 2, 1, 1, 12, 0, 1, 1, 0, 1, 0, 0, 4, 1};
        for (int what = 0; what < board.length; what++) {
            CHECKS.due("board(" + what + ") behind code()", x.board(what), board[what]);
        }
        CHECKS.due("line of the spared row", x.ofWord(32, 4), 8);
        CHECKS.due("retired", x.ofWord(100, 3), 1);
        CHECKS.due("ticks since the line was opened", x.ofLine(0, 1, 2), 1);
        x.hammer(0, 1, 3);
        // The numbers 7, 162, 36 and 153 are drawn next, now modulo 10 bits.
        CHECKS.due("drawn bit 2 of place 7", x.ofWord(7, 0), 4);
        CHECKS.due("drawn bit 3 of place 4", x.ofWord(20, 0), 8);
    }

    private static void promise02StuckOrderStays() {
        Scrubward x = new Scrubward();
        x.stick(1, 3, true);
        x.stick(1, 12, true);
        x.stick(1, 3, false);
        x.stick(1, 12, false);
        x.stick(2, 3, false);
        x.stick(2, 3, true);
        x.code(7, 5);
        CHECKS.due("word 1", x.ofWord(1, 0), 0);
        CHECKS.due("word 2", x.ofWord(2, 0), 8);
        CHECKS.due("stuck", x.board(14), 4);
    }

    private static void promise02Refuses() {
        Scrubward x = new Scrubward();
        x.ray(3, 9);
        x.read(3);
        int[][] wrong = {{3, 5}, {11, 5}, {11, 6}, {4, 3}, {4, 7}, {5, 4}, {10, 4}, {3, 3}, {0, 0}};
        for (int[] pair : wrong) {
            CHECKS.dueArgument(x, "code(" + pair[0] + ", " + pair[1] + ")", () -> x.code(pair[0], pair[1]));
        }
        for (int far : OUTSIDE) {
            CHECKS.dueArgument(x, "code(" + far + ", 5)", () -> x.code(far, 5));
            CHECKS.dueArgument(x, "code(8, " + far + ")", () -> x.code(8, far));
        }
    }

    private static void promise15Column() {
        Scrubward x = new Scrubward();
        for (int bit = 0; bit < COLUMNS.length; bit++) {
            CHECKS.due("column(" + bit + ")", x.column(bit), COLUMNS[bit]);
        }
        CHECKS.dueIndex(x, "column(13)", () -> x.column(13));
        for (int far : OUTSIDE) {
            CHECKS.dueIndex(x, "column(" + far + ")", () -> x.column(far));
        }
        x.code(10, 6);
        int[] wide = {7, 11, 13, 14, 19, 21, 22, 25, 26, 28, 1, 2, 4, 8, 16, 32};
        for (int bit = 0; bit < wide.length; bit++) {
            CHECKS.due("wide column(" + bit + ")", x.column(bit), wide[bit]);
        }
        x.code(4, 4);
        int[] narrow = {7, 11, 13, 14, 1, 2, 4, 8};
        for (int bit = 0; bit < narrow.length; bit++) {
            CHECKS.due("narrow column(" + bit + ")", x.column(bit), narrow[bit]);
        }
        CHECKS.dueIndex(x, "narrow column(8)", () -> x.column(8));
    }

    private static void promise16Encode() {
        Scrubward x = new Scrubward();
        CHECKS.due("encode(0)", x.encode(0), 0);
        CHECKS.due("encode(1)", x.encode(1), 1 + 7 * 256);
        CHECKS.due("encode(3)", x.encode(3), 3 + 12 * 256);
        CHECKS.due("encode(128)", x.encode(128), 128 + 25 * 256);
        CHECKS.due("encode(255)", x.encode(255), 1791);
        for (int data = 0; data < 256; data++) {
            Scrubward y = new Scrubward();
            CHECKS.due("syndrome of encode(" + data + ")", y.decode(y.encode(data), 0), 0);
            CHECKS.due("data of encode(" + data + ")", y.encode(data) & 255, data);
        }
        CHECKS.dueArgument(x, "encode(256)", () -> x.encode(256));
        for (int far : OUTSIDE) {
            CHECKS.dueArgument(x, "encode(" + far + ")", () -> x.encode(far));
        }
        x.code(4, 6);
        CHECKS.due("encode(15)", x.encode(15), 255);
        CHECKS.dueArgument(x, "encode(16)", () -> x.encode(16));
    }

    private static void promise17Decode() {
        Scrubward x = new Scrubward();
        int word = x.encode(90);
        dueDecode(x, word, 0, 0, -1, 90);
        for (int bit = 0; bit < 13; bit++) {
            dueDecode(x, word ^ 1 << bit, COLUMNS[bit], 1, bit, 90);
            for (int other = 0; other < bit; other++) {
                int two = word ^ 1 << bit ^ 1 << other;
                dueDecode(x, two, COLUMNS[bit] ^ COLUMNS[other], 2, -1, -1);
            }
        }
        // Odd syndromes that no column has: 7 ^ 11 ^ 16 is 28, 7 ^ 11 ^ 22 is 26.
        dueDecode(x, 1 + 2 + 4096, 28, 2, -1, -1);
        dueDecode(x, 1 + 2 + 64, 26, 2, -1, -1);
        dueDecode(x, 8191, x.decode(8191, 0), x.decode(8191, 1), x.decode(8191, 2), x.decode(8191, 3));
        CHECKS.dueArgument(x, "decode(8192, 0)", () -> x.decode(8192, 0));
        CHECKS.dueArgument(x, "decode(0, 4)", () -> x.decode(0, 4));
        for (int far : OUTSIDE) {
            CHECKS.dueArgument(x, "decode(" + far + ", 0)", () -> x.decode(far, 0));
            CHECKS.dueArgument(x, "decode(0, " + far + ")", () -> x.decode(0, far));
        }
    }

    private static void dueDecode(Scrubward x, int word, int syndrome, int verdict, int bit, int data) {
        CHECKS.due("decode(" + word + ", 0)", x.decode(word, 0), syndrome);
        CHECKS.due("decode(" + word + ", 1)", x.decode(word, 1), verdict);
        CHECKS.due("decode(" + word + ", 2)", x.decode(word, 2), bit);
        CHECKS.due("decode(" + word + ", 3)", x.decode(word, 3), data);
    }

    private static void promise18Fooled() {
        int[][] codes = {{4, 4}, {4, 5}, {8, 5}, {10, 5}, {4, 6}, {10, 6}};
        for (int[] pair : codes) {
            Scrubward x = new Scrubward();
            x.code(pair[0], pair[1]);
            CHECKS.due("fooled(2)", x.fooled(2), foundMended(pair, 2));
            CHECKS.due("fooled(3)", x.fooled(3), foundMended(pair, 3));
            CHECKS.due("fooled(2)", x.fooled(2), 0);
        }
        Scrubward x = new Scrubward();
        CHECKS.due("fooled(3)", x.fooled(3), 220);
        CHECKS.dueArgument(x, "fooled(1)", () -> x.fooled(1));
        CHECKS.dueArgument(x, "fooled(4)", () -> x.fooled(4));
        CHECKS.dueArgument(x, "fooled(0)", () -> x.fooled(0));
        for (int far : OUTSIDE) {
            CHECKS.dueArgument(x, "fooled(" + far + ")", () -> x.fooled(far));
        }
    }

    /** By an object for each last bit: none is used for more than 512 calls. */
    private static int foundMended(int[] pair, int many) {
        int found = 0;
        for (int last = 0; last < pair[0] + pair[1]; last++) {
            Scrubward x = new Scrubward();
            x.code(pair[0], pair[1]);
            for (int word = 1 << last; word < 2 << last; word++) {
                if (Integer.bitCount(word) == many && x.decode(word, 1) == 1) {
                    found++;
                }
            }
        }
        return found;
    }
}
