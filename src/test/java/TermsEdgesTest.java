/**
 * Every sentence of the document's "Terms", quoted, with a test at the edges that it names: just
 * inside and just outside, empty and full, at a wrap-around, and where a call is refused.
 */
final class TermsEdgesTest {
    private static final Checks CHECKS = new Checks();
    private static final Document DOC = new Document(CHECKS);
    private static final String CODES = "== 0";
    private static final String MEMORY = "== 1";
    private static final String USE = "== 2";
    private static final String LINES = "== 3";
    private static final String TICKS = "== 4";
    private static final String LOG = "== 5";
    private static final String REPAIRS = "== 6";

    public static void main(String[] args) {
        general();
        codes();
        memory();
        writing();
        reading();
        lines();
        ticks();
        log();
        repairs();
        DOC.dueAllQuoted("Terms");
        DOC.dueAllQuoted("== ");
        CHECKS.end();
    }

    // ---- Terms, ahead of its parts

    private static void general() {
        DOC.plain("Terms", "Its calls: a code is made from columns of odd weight, words are written and read, "
                + "rays and stuck cells, weak cells and hammered rows come, a patrol scrubs, rows are spared, "
                + "words retired, poison carried, two banks mirrored, and ticks go by. One asks for codes and "
                + "syndromes, what a read would tell, what lies in cells, logs and who is to blame, how many "
                + "triples would be mended wrongly, which row to spare next.");
        DOC.plain("Terms", "\u00abIn their order\u00bb: the smallest number first.");
        roundedDown();
        noneIsBelowZero();
        setsOfBits();
        the512thCall();
    }

    private static void roundedDown() {
        DOC.quote("Terms", "Whole numbers; what is divided is rounded down (nothing that is divided is below 0).");
        Scrubward x = new Scrubward();
        int[][] lineAt = {{0, 0}, {7, 0}, {8, 1}, {15, 1}, {56, 7}, {63, 7}, {64, 0}, {71, 0}, {72, 1}, {127, 7}};
        for (int[] pair : lineAt) {
            CHECKS.due("line of " + pair[0], x.ofWord(pair[0], 4), pair[1]);
        }
    }

    private static void noneIsBelowZero() {
        DOC.quote("Terms", "NONE is -1.");
        Scrubward x = new Scrubward();
        CHECKS.due("no bit of a clean word", x.decode(0, 2), -1);
        CHECKS.due("no bit of a bad word", x.decode(3, 2), -1);
        CHECKS.due("no data of a bad word", x.decode(3, 3), -1);
        CHECKS.due("no row of a spare", x.ofLine(0, 9, 1), -1);
        CHECKS.due("nothing is blamed", x.blame(1, true), -1);
        CHECKS.due("no row to spare", x.wouldSpare(1), -1);
        x.ray(0, 3);
        CHECKS.due("no data would be told", x.wouldRead(0), -1);
        CHECKS.due("no data is told", x.read(0), -1);
        CHECKS.due("no bit of a bad entry", x.ofEntry(0, 1), -1);
    }

    private static void setsOfBits() {
        DOC.quote("Terms", "A set is the sum of 2^k for the number k of each; the WEIGHT of a number is how many "
                + "binary digits of it are 1; XOR is that of their binary digits.");
        Scrubward x = new Scrubward();
        CHECKS.due("the least set", x.ray(9, 1), 1);
        CHECKS.due("the first and the last bit", x.ray(9, 1 + 4096), 4096);
        CHECKS.due("all bits", x.ray(9, 8191), 4095);
        CHECKS.due("the last bit alone", x.ray(9, 4096), 8191);
    }

    private static void the512thCall() {
        DOC.quote("What it is", "An object is used for at most 512 calls after it has been made");
        Scrubward x = new Scrubward();
        for (int i = 0; i < 510; i++) {
            x.call();
        }
        CHECKS.due("the call 511", x.write(127, 255), 1791);
        CHECKS.due("the call 512", x.read(127), 255);
    }

    // ---- 0. Codes

    private static void codes() {
        sizesOfCodes();
        columnsOfData();
        columnsOfChecks();
        manyColumns();
        words();
        syndromes();
        encoding();
        decoding();
    }

    private static void sizesOfCodes() {
        DOC.quote(CODES, "A CODE has K data bits (4 to 10) and R check bits (4 to 6).");
        Scrubward x = new Scrubward();
        CHECKS.due("the least K and R", x.code(4, 4), 8);
        CHECKS.due("the most K and R", x.code(10, 6), 16);
        CHECKS.dueArgument(x, "K below 4", () -> x.code(3, 4));
        CHECKS.dueArgument(x, "K above 10", () -> x.code(11, 6));
        CHECKS.dueArgument(x, "R below 4", () -> x.code(4, 3));
        CHECKS.dueArgument(x, "R above 6", () -> x.code(10, 7));
        CHECKS.due("the least K, the most R", x.code(4, 6), 10);
    }

    private static void columnsOfData() {
        DOC.quote(CODES, "COLUMNS: of the bit k below K the number that is the k-th one (from 0 on), by rising "
                + "WEIGHT, then by rising numbers, of those of 1 to 2^R - 1 with an odd WEIGHT of 3 or more;");
        int[] due = {7, 11, 13, 14, 19, 21, 22, 25, 26, 28};
        for (int r = 4; r <= 6; r++) {
            int k = r == 4 ? 4 : 10;
            Scrubward x = new Scrubward();
            x.code(k, r);
            for (int bit = 0; bit < k; bit++) {
                CHECKS.due("column " + bit + " with R of " + r, x.column(bit), due[bit]);
            }
        }
    }

    private static void columnsOfChecks() {
        DOC.quote(CODES, "of the bit K + i it is 2^i.");
        for (int r = 4; r <= 6; r++) {
            Scrubward x = new Scrubward();
            x.code(4, r);
            CHECKS.due("the last data bit", x.column(3), 14);
            for (int i = 0; i < r; i++) {
                CHECKS.due("check bit " + i, x.column(4 + i), 1 << i);
            }
            CHECKS.dueIndex(x, "behind the last check bit", () -> x.column(x.board(1) + x.board(2)));
        }
    }

    private static void manyColumns() {
        DOC.quote(CODES, "(There have to be K such numbers: 4 with R of 4, 11 with 5, 26 with 6.)");
        Scrubward x = new Scrubward();
        CHECKS.due("4 of 4", x.code(4, 4), 8);
        CHECKS.dueArgument(x, "5 of 4", () -> x.code(5, 4));
        CHECKS.dueArgument(x, "10 of 4", () -> x.code(10, 4));
        CHECKS.due("5 of 11", x.code(5, 5), 10);
        CHECKS.due("10 of 11", x.code(10, 5), 15);
        CHECKS.due("10 of 26", x.code(10, 6), 16);
    }

    private static void words() {
        DOC.quote(CODES, "A WORD has K + R bits, told as a number, the bit k as 2^k.");
        int[][] codes = {{4, 4}, {8, 5}, {10, 6}};
        for (int[] code : codes) {
            Scrubward x = new Scrubward();
            int width = x.code(code[0], code[1]);
            CHECKS.due("the first bit", x.ray(0, 1), 1);
            CHECKS.due("the last bit", x.ray(127, 1 << (width - 1)), 1 << (width - 1));
            CHECKS.dueArgument(x, "a bit behind the last", () -> x.ray(0, 1 << width));
        }
    }

    private static void syndromes() {
        DOC.quote(CODES, "SYNDROME of a WORD: the XOR of COLUMNS of all bits of it that are 1.");
        int[][] codes = {{4, 4}, {8, 5}, {10, 6}};
        for (int[] code : codes) {
            Scrubward x = new Scrubward();
            int width = x.code(code[0], code[1]);
            int all = 0;
            for (int bit = 0; bit < width; bit++) {
                all ^= x.column(bit);
                CHECKS.due("of the bits to " + bit, x.decode((2 << bit) - 1, 0), all);
            }
            CHECKS.due("of no bit", x.decode(0, 0), 0);
        }
    }

    private static void encoding() {
        DOC.quote(CODES, "To ENCODE DATA (a number below 2^K): the WORD with these bits whose SYNDROME is 0.");
        int[][] codes = {{4, 4}, {8, 5}, {10, 6}};
        for (int[] code : codes) {
            Scrubward x = new Scrubward();
            x.code(code[0], code[1]);
            int most = (1 << code[0]) - 1;
            CHECKS.due("of 0", x.encode(0), 0);
            CHECKS.due("of 1", x.encode(1), 1 + (7 << code[0]));
            CHECKS.due("the bits of the most", x.encode(most) & most, most);
            CHECKS.due("the syndrome of the most", x.decode(x.encode(most), 0), 0);
            CHECKS.dueArgument(x, "2^K", () -> x.encode(most + 1));
            CHECKS.dueArgument(x, "below 0", () -> x.encode(-1));
        }
    }

    private static void decoding() {
        DOC.quote(CODES, "To DECODE a WORD: with a SYNDROME of 0 it is CLEAN; if the SYNDROME is a COLUMN, that bit "
                + "is turned and the WORD is MENDED; otherwise it is BAD.");
        Scrubward x = new Scrubward();
        CHECKS.due("the word 0 is clean", x.decode(0, 1), 0);
        CHECKS.due("the last clean one is clean", x.decode(x.encode(255), 1), 0);
        int[] edges = {0, 7, 8, 12};
        for (int bit : edges) {
            CHECKS.due("bit " + bit + " is mended", x.decode(1791 ^ 1 << bit, 1), 1);
            CHECKS.due("bit " + bit + " is turned", x.decode(1791 ^ 1 << bit, 2), bit);
            CHECKS.due("data with bit " + bit + " turned", x.decode(1791 ^ 1 << bit, 3), 255);
        }
        CHECKS.due("an even syndrome is bad", x.decode(1 + 4096, 1), 2);
        // 26 and 28 are odd numbers of weight 3 which no bit has: they are the columns 8 and 9 of 10.
        CHECKS.due("an odd syndrome that is no column is bad", x.decode(2 + 4096 + 256, 0), 26);
        CHECKS.due("an odd syndrome that is no column is bad", x.decode(2 + 4096 + 256, 1), 2);
        x.code(10, 5);
        CHECKS.due("but with 10 data bits it is one", x.decode(2 + 16384 + 1024, 2), 8);
    }

    // ---- 1. Memory

    private static void memory() {
        addresses();
        wordsAtFirst();
        linesAtFirst();
        oldLines();
        faultsOfLines();
        stuckAtMost();
        stuckAlways();
        weakAtMost();
        weakSpans();
        weakSinceWhen();
        weakBitsThatAreOne();
        poisonedAndRetired();
    }

    private static void addresses() {
        DOC.quote(MEMORY, "2 BANKS, each of 8 ROWS of 8 WORDS (PLACES 0 to 7); an ADDRESS is BANK * 64 + ROW * 8 + "
                + "PLACE (0 to 127).");
        Scrubward x = new Scrubward();
        for (int address = 0; address < 128; address++) {
            x.write(address, 2 * address);
        }
        for (int address = 0; address < 128; address++) {
            CHECKS.due("read(" + address + ")", x.read(address), 2 * address);
        }
        for (int line = 0; line < 16; line++) {
            CHECKS.due("openings of a line", x.ofLine(line / 8, line % 8, 0), 16);
        }
        CHECKS.dueIndex(x, "ahead of the first", () -> x.read(-1));
        CHECKS.dueIndex(x, "behind the last", () -> x.read(128));
    }

    private static void wordsAtFirst() {
        DOC.quote(MEMORY, "All WORDS are 0 at first (also as a CODE is made anew).");
        Scrubward x = new Scrubward();
        Scrubward y = new Scrubward();
        for (int address = 0; address < 128; address++) {
            y.ray(address, 1 + address);
        }
        y.code(8, 5);
        for (int address = 0; address < 128; address++) {
            CHECKS.due("at first", x.ofWord(address, 0), 0);
            CHECKS.due("made anew", y.ofWord(address, 0), 0);
        }
    }

    private static void linesAtFirst() {
        DOC.quote(MEMORY, "LINES are what WORDS really lie in: of each BANK 10, the LINES 0 to 7 for the ROWS at "
                + "first, and 8, 9: the SPARES.");
        Scrubward x = new Scrubward();
        for (int bank = 0; bank < 2; bank++) {
            for (int line = 0; line < 10; line++) {
                CHECKS.due("row of the line " + line, x.ofLine(bank, line, 1), line < 8 ? line : -1);
            }
        }
        CHECKS.dueIndex(x, "a line behind the last", () -> x.ofLine(1, 10, 1));
    }

    private static void oldLines() {
        DOC.quote(MEMORY, "As a ROW is SPARED (6), a SPARE is its LINE from then on; the old one stays where it is, "
                + "with all that is in it, and no ADDRESS lies in it any more.");
        Scrubward x = new Scrubward();
        x.hammer(1, 7, 3);
        x.ray(127, 1);
        x.ray(120, 3);
        x.spare(1, 7);
        CHECKS.due("the row's line", x.ofWord(127, 4), 8);
        CHECKS.due("the spare's row", x.ofLine(1, 8, 1), 7);
        CHECKS.due("the old one is for no row", x.ofLine(1, 7, 1), -1);
        CHECKS.due("what is in it", x.ofLine(1, 7, 4), 2);
        CHECKS.due("its count", x.ofLine(1, 7, 0), 3);
        x.write(127, 7);
        x.write(120, 7);
        CHECKS.due("no address lies in it", x.ofLine(1, 7, 4), 2);
        CHECKS.due("nor opens it", x.ofLine(1, 7, 0), 3);
        x.spare(1, 7);
        CHECKS.due("the row's line", x.ofWord(120, 4), 9);
        CHECKS.due("the first spare is for no row", x.ofLine(1, 8, 1), -1);
    }

    private static void faultsOfLines() {
        DOC.quote(MEMORY, "Faults belong to LINES, not to ADDRESSES.");
        Scrubward x = new Scrubward();
        x.stick(63, 12, true);
        x.weak(63, 0, 1);
        x.ray(63, 1);
        x.spare(0, 7);
        CHECKS.due("stuck at the address", x.ofWord(63, 5), 0);
        CHECKS.due("weak at the address", x.ofWord(63, 6), 0);
        x.write(63, 1);
        CHECKS.due("nothing is stuck", x.ofWord(63, 0), 1793);
        x.pass(1);
        CHECKS.due("nothing leaks", x.ofWord(63, 0), 1793);
        CHECKS.due("stuck in the old line", x.ofLine(0, 7, 3), 1);
    }

    private static void stuckAtMost() {
        DOC.quote(MEMORY, "STUCK cells: at most 24, each told by an ADDRESS (the LINE in which that lies then, and "
                + "its PLACE) and a bit, at 0 or 1:");
        Scrubward x = new Scrubward();
        for (int i = 1; i <= 24; i++) {
            CHECKS.due("stuck", x.stick(127, 12, i % 2 == 0), i);
        }
        CHECKS.dueState(x, "the 25th", () -> x.stick(0, 0, true));
        CHECKS.due("stuck cells", x.board(14), 24);
        CHECKS.due("in its word", x.ofWord(127, 5), 24);
        CHECKS.due("weak cells have a room of their own", x.weak(127, 12, 1), 1);
    }

    private static void stuckAlways() {
        DOC.quote(MEMORY, "whatever is written or turned there, that bit is so, from when it is told (of several "
                + "for one bit the last told one).");
        Scrubward x = new Scrubward();
        x.write(0, 255);
        x.stick(0, 0, false);
        CHECKS.due("from when it is told", x.ofWord(0, 0), 1790);
        CHECKS.due("turned", x.ray(0, 1), 1790);
        CHECKS.due("written", x.write(0, 255), 1790);
        x.run(16, 20, 0, true, false);
        CHECKS.due("mended", x.read(0), 255);
        CHECKS.due("written back", x.ofWord(0, 0), 1790);
        x.stick(0, 0, true);
        CHECKS.due("the last told one", x.ofWord(0, 0), 1791);
        CHECKS.due("turned", x.ray(0, 1), 1791);
        CHECKS.due("written", x.write(0, 0), 1);
        x.weak(0, 0, 1);
        x.pass(1);
        CHECKS.due("weak", x.ofWord(0, 0), 1);
        x.stick(0, 0, false);
        CHECKS.due("the last told one of three", x.ofWord(0, 0), 0);
        x.stick(0, 12, true);
        CHECKS.due("of another bit", x.ofWord(0, 0), 4096);
    }

    private static void weakAtMost() {
        DOC.quote(MEMORY, "WEAK cells: at most 24, told likewise, with a SPAN (1 to 60):");
        Scrubward x = new Scrubward();
        for (int i = 1; i <= 24; i++) {
            CHECKS.due("weak", x.weak(127, 12, i % 2 == 0 ? 1 : 60), i);
        }
        CHECKS.dueState(x, "the 25th", () -> x.weak(0, 0, 1));
        CHECKS.dueArgument(x, "a span of 0", () -> x.weak(0, 0, 0));
        CHECKS.dueArgument(x, "a span of 61", () -> x.weak(0, 0, 61));
        CHECKS.due("weak cells", x.board(15), 24);
        CHECKS.due("stuck cells have a room of their own", x.stick(127, 12, true), 1);
    }

    private static void weakSpans() {
        DOC.quote(MEMORY, "as it is SPAN TICKS or more since its LINE was REFRESHED or opened last");
        for (int span : new int[] {1, 2, 59, 60}) {
            Scrubward x = new Scrubward();
            x.run(100, 20, 0, false, false);
            x.write(64, 1);
            x.weak(64, 0, span);
            if (span > 1) {
                x.pass(span - 1);
            }
            CHECKS.due("ahead of a span of " + span, x.ofWord(64, 0), 1793);
            x.pass(1);
            CHECKS.due("at a span of " + span, x.ofWord(64, 0), 1792);
        }
    }

    private static void weakSinceWhen() {
        DOC.quote(MEMORY, "(as a TICK begins, 4; since 0 at first).");
        Scrubward x = new Scrubward();
        x.pass(3);
        x.ray(0, 1);
        x.ray(8, 1);
        x.weak(0, 0, 5);
        x.weak(8, 0, 5);
        x.read(8);
        x.pass(1);
        CHECKS.due("4 ticks since 0", x.ofWord(0, 0), 1);
        x.pass(1);
        CHECKS.due("5 ticks since 0, though it was told at 3", x.ofWord(0, 0), 0);
        x.pass(2);
        CHECKS.due("4 ticks since it was opened at 3", x.ofWord(8, 0), 1);
        x.pass(1);
        CHECKS.due("5 ticks since it was opened at 3", x.ofWord(8, 0), 0);
        x.pass(8);
        x.ray(0, 1);
        x.pass(4);
        CHECKS.due("4 ticks since it was refreshed at 16", x.ofWord(0, 0), 1);
        x.pass(1);
        CHECKS.due("5 ticks since it was refreshed at 16", x.ofWord(0, 0), 0);
    }

    private static void weakBitsThatAreOne() {
        DOC.quote(MEMORY, "a bit that is 1 becomes 0,");
        Scrubward x = new Scrubward();
        x.weak(0, 3, 2);
        x.weak(0, 12, 2);
        x.pass(5);
        CHECKS.due("a bit that is 0 stays", x.ofWord(0, 0), 0);
        x.ray(0, 8 + 16 + 4096);
        CHECKS.due("not as it is turned", x.ofWord(0, 0), 8 + 16 + 4096);
        x.pass(1);
        CHECKS.due("but as the next tick begins, and no other bit", x.ofWord(0, 0), 16);
        CHECKS.due("not logged", x.board(9), 0);
    }

    private static void poisonedAndRetired() {
        DOC.quote(MEMORY, "A WORD (an ADDRESS) can be POISONED, RETIRED, or both.");
        Scrubward x = new Scrubward();
        x.ray(0, 3);
        x.ray(2, 3);
        x.read(0);
        x.read(2);
        x.retire(1, true);
        x.retire(2, true);
        int[][] due = {{1, 0}, {0, 1}, {1, 1}, {0, 0}};
        for (int address = 0; address < 4; address++) {
            CHECKS.due("poisoned " + address, x.ofWord(address, 2), due[address][0]);
            CHECKS.due("retired " + address, x.ofWord(address, 3), due[address][1]);
        }
        x.spare(0, 0);
        CHECKS.due("an address is, not a line: poisoned", x.ofWord(0, 2), 1);
        CHECKS.due("an address is, not a line: retired", x.ofWord(1, 3), 1);
    }

    // ---- 2. To write

    private static void writing() {
        offAtFirst();
        writeOne();
        writeMirrored();
        writeMirroredToRetired();
    }

    private static void offAtFirst() {
        DOC.quote(USE, "(DEMAND is off, and it is not MIRRORED at first.)");
        Scrubward x = new Scrubward();
        x.write(0, 9);
        CHECKS.due("not mirrored", x.ofWord(64, 0), 0);
        x.ray(0, 1);
        x.read(0);
        CHECKS.due("not written back", x.ofWord(0, 0), x.encode(9) ^ 1);
        x.ray(0, 2);
        CHECKS.due("not read from the other bank", x.read(0), -1);
        CHECKS.due("nor is that opened", x.ofLine(1, 0, 0), 0);
    }

    private static void writeOne() {
        DOC.quote(USE, "To WRITE DATA at an ADDRESS: its LINE is opened (3), the WORD is what DATA ENCODES, its "
                + "POISON is gone.");
        Scrubward x = new Scrubward();
        x.pass(3);
        x.ray(127, 3);
        x.read(127);
        CHECKS.due("the least data", x.write(127, 0), 0);
        CHECKS.due("poison", x.ofWord(127, 2), 0);
        CHECKS.due("the most data", x.write(127, 255), 1791);
        CHECKS.due("count", x.ofLine(1, 7, 0), 3);
        CHECKS.due("opened", x.ofLine(1, 7, 2), 0);
    }

    private static void writeMirrored() {
        DOC.quote(USE, "If MIRRORED, the same is done at the same ROW and PLACE of the other BANK then");
        int[][] pairs = {{0, 64}, {63, 127}, {64, 0}, {127, 63}};
        for (int[] pair : pairs) {
            Scrubward x = new Scrubward();
            x.ray(pair[1], 3);
            x.read(pair[1]);
            x.run(16, 20, 0, false, true);
            x.write(pair[0], 255);
            CHECKS.due("there", x.ofWord(pair[1], 0), 1791);
            CHECKS.due("poison there", x.ofWord(pair[1], 2), 0);
            CHECKS.due("count here", x.ofLine(pair[0] / 64, pair[0] / 8 % 8, 0), 1);
            CHECKS.due("count there", x.ofLine(pair[1] / 64, pair[1] / 8 % 8, 0), 2);
        }
        Scrubward x = new Scrubward();
        x.run(16, 2, 0, false, true);
        x.write(64, 0);
        x.write(64, 0);
        // Of 5, 128, 211, 116 the first two are drawn for the bank that is opened first.
        CHECKS.due("its own bank first", x.ofWord(64 + 8 + 5, 0), 1 << 128 % 13);
        CHECKS.due("then the other one", x.ofWord(8 + 3, 0), 1 << 116 % 13);
    }

    private static void writeMirroredToRetired() {
        DOC.quote(USE, "(not, if that WORD is RETIRED).");
        Scrubward x = new Scrubward();
        x.ray(127, 3);
        x.read(127);
        x.retire(127, true);
        x.run(16, 20, 0, false, true);
        CHECKS.due("written here", x.write(63, 1), 1793);
        CHECKS.due("not there", x.ofWord(127, 0), 3);
        CHECKS.due("poison there", x.ofWord(127, 2), 1);
        CHECKS.due("nor is it opened", x.ofLine(1, 7, 0), 1);
        x.retire(127, false);
        x.write(63, 1);
        CHECKS.due("taken back: there", x.ofWord(127, 0), 1793);
    }

    // ---- 2. To read

    private static void reading() {
        readClean();
        readMended();
        readBad();
        readOther();
        readOtherTold();
        readOtherBad();
        readNone();
    }

    private static void readClean() {
        DOC.quote(USE, "To READ at an ADDRESS: its LINE is opened, then the WORD is DECODED. If it is not POISONED, "
                + "and CLEAN: its DATA is told;");
        Scrubward x = new Scrubward();
        x.run(16, 20, 0, true, true);
        x.write(127, 255);
        CHECKS.due("the most data", x.read(127), 255);
        CHECKS.due("the least data", x.read(0), 0);
        CHECKS.due("opened", x.ofLine(1, 7, 0), 2);
        CHECKS.due("the other bank is not", x.ofLine(0, 7, 0), 1);
        CHECKS.due("entries", x.board(9), 0);
    }

    private static void readMended() {
        DOC.quote(USE, "MENDED: it is logged, the mended WORD is written back, if DEMAND is on (nothing is opened for "
                + "that), and its DATA is told.");
        Scrubward x = new Scrubward();
        x.write(127, 255);
        for (int bit : new int[] {0, 7, 8, 12}) {
            x.ray(127, 1 << bit);
            x.run(16, 20, 0, false, false);
            CHECKS.due("with demand off", x.read(127), 255);
            CHECKS.due("not written back", x.ofWord(127, 0), 1791 ^ 1 << bit);
            CHECKS.due("logged", x.ofEntry(x.board(9) - 1, 1), bit);
            x.run(16, 20, 0, true, false);
            CHECKS.due("with demand on", x.read(127), 255);
            CHECKS.due("written back", x.ofWord(127, 0), 1791);
            CHECKS.due("logged", x.ofEntry(x.board(9) - 1, 1), bit);
        }
        CHECKS.due("opened once to write and by each read", x.ofLine(1, 7, 0), 9);
        CHECKS.due("entries", x.board(9), 8);
    }

    private static void readBad() {
        DOC.quote(USE, "Otherwise (if it is BAD and not POISONED, it is logged):");
        Scrubward x = new Scrubward();
        x.ray(0, 3);
        x.read(0);
        CHECKS.due("bad and not poisoned", x.board(9), 1);
        CHECKS.due("no bit", x.ofEntry(0, 1), -1);
        x.read(0);
        CHECKS.due("bad and poisoned", x.board(9), 1);
        x.ray(0, 1);
        x.read(0);
        CHECKS.due("mended and poisoned", x.board(9), 1);
        CHECKS.due("bad ever", x.board(11), 1);
        CHECKS.due("mended ever", x.board(10), 0);
    }

    private static void readOther() {
        DOC.quote(USE, "if MIRRORED, and the WORD at the same ROW and PLACE of the other BANK is not RETIRED, its LINE "
                + "is opened, and it is DECODED;");
        int[][] pairs = {{0, 64}, {63, 127}, {64, 0}, {127, 63}};
        for (int[] pair : pairs) {
            Scrubward x = new Scrubward();
            x.write(pair[1], 200);
            x.ray(pair[0], 3);
            x.run(16, 20, 0, false, true);
            x.retire(pair[1], true);
            CHECKS.due("retired there", x.read(pair[0]), -1);
            CHECKS.due("not opened", x.ofLine(pair[1] / 64, pair[1] / 8 % 8, 0), 1);
            x.retire(pair[1], false);
            CHECKS.due("taken back", x.read(pair[0]), 200);
            CHECKS.due("opened", x.ofLine(pair[1] / 64, pair[1] / 8 % 8, 0), 2);
        }
    }

    private static void readOtherTold() {
        DOC.quote(USE, "if it is not POISONED, and CLEAN or MENDED (logged and written back likewise), its DATA is "
                + "told, and what that ENCODES is put here (nothing is opened or written elsewhere by that), POISON "
                + "is gone.");
        for (boolean isDemand : new boolean[] {false, true}) {
            Scrubward x = new Scrubward();
            x.write(64, 200);
            x.ray(64, 4096);
            x.ray(0, 3);
            x.read(0);
            CHECKS.due("poisoned", x.ofWord(0, 2), 1);
            x.run(16, 20, 0, isDemand, true);
            CHECKS.due("told", x.read(0), 200);
            CHECKS.due("put here", x.ofWord(0, 0), 456);
            CHECKS.due("poison", x.ofWord(0, 2), 0);
            CHECKS.due("logged", x.ofEntry(1, 0), 64);
            CHECKS.due("logged", x.ofEntry(1, 1), 12);
            CHECKS.due("there", x.ofWord(64, 0), isDemand ? 456 : 456 + 4096);
            CHECKS.due("opened here by each read", x.ofLine(0, 0, 0), 2);
            CHECKS.due("opened there to write and to read", x.ofLine(1, 0, 0), 2);
        }
    }

    private static void readOtherBad() {
        DOC.quote(USE, "(If that one is BAD, it is not logged.)");
        Scrubward x = new Scrubward();
        x.ray(0, 3);
        x.ray(64, 3);
        x.run(16, 20, 0, true, true);
        CHECKS.due("both are bad", x.read(0), -1);
        CHECKS.due("entries", x.board(9), 1);
        CHECKS.due("of the first", x.ofEntry(0, 0), 0);
        CHECKS.due("bad ever", x.board(11), 1);
        CHECKS.due("not poisoned there", x.ofWord(64, 2), 0);
    }

    private static void readNone() {
        DOC.quote(USE, "In all other cases NONE is told, and the first WORD is POISONED.");
        Scrubward x = new Scrubward();
        x.ray(64, 3);
        x.read(64);
        x.ray(64, 3);
        x.ray(0, 3);
        x.run(16, 20, 0, false, true);
        CHECKS.due("clean, but poisoned there", x.read(0), -1);
        CHECKS.due("poisoned", x.ofWord(0, 2), 1);
        x.ray(64, 1);
        CHECKS.due("mended, but poisoned there", x.read(0), -1);
        CHECKS.due("that is not logged", x.board(9), 2);
        x.ray(1, 3);
        x.run(16, 20, 0, false, false);
        CHECKS.due("not mirrored", x.read(1), -1);
        CHECKS.due("poisoned", x.ofWord(1, 2), 1);
        CHECKS.due("the word stays", x.ofWord(1, 0), 3);
    }

    // ---- 3. Rows that are opened, refreshed, hammered

    private static void lines() {
        opened();
        hammeredAtLimit();
        hammeredEdges();
        drawnModulo();
        drawnRow();
        refreshed();
        leakedStays();
    }

    private static void opened() {
        DOC.quote(LINES, "As a LINE is opened, its COUNT is 1 more (0 at first), and its own WEAK cells begin anew.");
        Scrubward x = new Scrubward();
        CHECKS.due("count at first", x.ofLine(0, 0, 0), 0);
        x.ray(0, 1);
        x.weak(0, 0, 2);
        x.ray(8, 1);
        x.weak(8, 0, 2);
        x.pass(1);
        CHECKS.due("opened", x.hammer(0, 0, 1), 1);
        x.pass(1);
        CHECKS.due("its own begins anew", x.ofWord(0, 0), 1);
        CHECKS.due("that of the next line does not", x.ofWord(8, 0), 0);
        x.pass(1);
        CHECKS.due("2 ticks since then", x.ofWord(0, 0), 0);
    }

    private static void hammeredAtLimit() {
        DOC.quote(LINES, "If COUNT is a multiple of LIMIT (20 at first) by that,");
        Scrubward x = new Scrubward();
        int[][] steps = {{19, 0}, {1, 4}, {1, 4}, {18, 4}, {1, 8}, {100, 28}};
        for (int[] step : steps) {
            x.hammer(0, 3, step[0]);
            CHECKS.due("drawn at " + x.ofLine(0, 3, 0), x.board(16), step[1]);
        }
        for (int limit : new int[] {2, 100}) {
            Scrubward y = new Scrubward();
            y.run(16, limit, 0, false, false);
            y.hammer(0, 3, limit - 1);
            CHECKS.due("ahead of a limit of " + limit, y.board(16), 0);
            y.read(24);
            CHECKS.due("at a limit of " + limit, y.board(16), 4);
        }
    }

    private static void hammeredEdges() {
        DOC.quote(LINES, "the LINES next to it (LINE - 1 and LINE + 1 of that BANK, of 0 to 9) are HAMMERED, the "
                + "smaller one first:");
        Scrubward x = new Scrubward();
        x.hammer(1, 0, 20);
        CHECKS.due("there is no line below 0", x.board(16), 2);
        CHECKS.due("the line 1", x.ofWord(64 + 8 + 5, 0), 1 << 128 % 13);
        CHECKS.due("not the last of the other bank", x.ofLine(0, 9, 4), 0);
        x.hammer(1, 1, 20);
        CHECKS.due("the line 1 has two, of which one is the line 0", x.board(16), 6);
        CHECKS.due("the line 0", x.ofWord(64 + 211 % 8, 0), 1 << 116 % 13);
        Scrubward y = new Scrubward();
        y.hammer(0, 7, 20);
        CHECKS.due("the smaller one first", y.ofWord(48 + 5, 0), 1 << 128 % 13);
        CHECKS.due("then the spare, though it is unused", y.ofLine(0, 8, 4), 1);
        Scrubward z = new Scrubward();
        z.spare(1, 4);
        z.hammer(1, 4, 20);
        CHECKS.due("the line 8 has two, of which one is the line 9", z.ofLine(1, 9, 4), 1);
        z = new Scrubward();
        z.spare(0, 4);
        z.spare(0, 4);
        z.hammer(0, 4, 20);
        CHECKS.due("there is no line behind 9", z.board(16), 2);
        CHECKS.due("the line 8, in which no address lies", z.ofLine(0, 8, 4), 1);
        CHECKS.due("not the first of the other bank", z.ofLine(1, 0, 4), 0);
    }

    private static void drawnModulo() {
        DOC.quote(LINES, "in each one bit is turned: its PLACE is DRAWN modulo 8, then the bit DRAWN modulo (K + R).");
        int[][] codes = {{4, 4}, {8, 5}, {10, 6}};
        for (int[] code : codes) {
            Scrubward x = new Scrubward();
            int width = x.code(code[0], code[1]);
            x.hammer(0, 3, 20);
            CHECKS.due("5, then 128", x.ofWord(16 + 5, 0), 1 << 128 % width);
            CHECKS.due("211, then 116", x.ofWord(32 + 211 % 8, 0), 1 << 116 % width);
            x.ray(16 + 162 % 8, 1 << 36 % width);
            x.ray(32 + 7, 1 << 162 % width);
            x.hammer(0, 4, 20);
            CHECKS.due("a bit that is 1 is turned, too: 7, then 162 in the line 3", x.ofWord(24 + 7, 0), 1 << 162 % width);
            CHECKS.due("36, then 153 in the line 5", x.ofWord(40 + 36 % 8, 0), 1 << 153 % width);
        }
    }

    /** 600 numbers, so that the row comes round: it has at most 251 different ones. */
    private static void drawnRow() {
        DOC.quote(LINES, "DRAWN numbers are a row: the first one is 5, each next one is (17 * the one ahead + 43) "
                + "modulo 251; each DRAWN is the next one.");
        Scrubward x = new Scrubward();
        x.run(16, 2, 0, false, false);
        int[][] due = new int[2][8];
        int drawn = 5;
        for (int i = 0; i < 3; i++) {
            x.hammer(0, 3, 100);
            for (int turn = 0; turn < 100; turn++) {
                int bit = (17 * drawn + 43) % 251;
                due[turn % 2][drawn % 8] ^= 1 << bit % 13;
                drawn = (17 * bit + 43) % 251;
            }
            CHECKS.due("drawn", x.board(16), 200 * (i + 1));
            for (int place = 0; place < 8; place++) {
                CHECKS.due("the line 2", x.ofWord(16 + place, 0), due[0][place]);
                CHECKS.due("the line 4", x.ofWord(32 + place, 0), due[1][place]);
            }
        }
    }

    private static void refreshed() {
        DOC.quote(LINES, "Each PERIOD TICKS (16 at first; as TICK is a multiple of PERIOD) all LINES are REFRESHED: "
                + "their COUNTS are 0, and their WEAK cells begin anew.");
        for (int period : new int[] {16, 1, 100}) {
            Scrubward x = new Scrubward();
            if (period != 16) {
                x.run(period, 20, 0, false, false);
            }
            x.hammer(1, 7, 5);
            if (period > 1) {
                x.pass(period - 1);
                CHECKS.due("count ahead of it", x.ofLine(1, 7, 0), 5);
                CHECKS.due("ticks ahead of it", x.ofLine(0, 9, 2), period - 1);
            }
            x.pass(1);
            CHECKS.due("count", x.ofLine(1, 7, 0), 0);
            CHECKS.due("ticks since", x.ofLine(0, 9, 2), 0);
            CHECKS.due("ticks since", x.ofLine(1, 7, 2), 0);
        }
        Scrubward x = new Scrubward();
        x.pass(15);
        x.run(10, 20, 0, false, false);
        x.pass(4);
        CHECKS.due("multiples of TICK, not ticks since then: 19", x.ofLine(0, 0, 2), 19);
        x.pass(1);
        CHECKS.due("multiples of TICK, not ticks since then: 20", x.ofLine(0, 0, 2), 0);
    }

    private static void leakedStays() {
        DOC.quote(LINES, "(What leaked is not brought back.)");
        Scrubward x = new Scrubward();
        x.write(0, 255);
        x.weak(0, 0, 15);
        x.pass(15);
        CHECKS.due("leaked", x.ofWord(0, 0), 1790);
        x.pass(1);
        CHECKS.due("refreshed", x.ofWord(0, 0), 1790);
        x.hammer(0, 0, 1);
        CHECKS.due("opened", x.ofWord(0, 0), 1790);
    }

    // ---- 4. Ticks and the patrol

    private static void ticks() {
        tickAtMost();
        leaksFirst();
        thenRefreshed();
        patrolSteps();
        patrolScrubs();
        patrolPasses();
    }

    private static void tickAtMost() {
        DOC.quote(TICKS, "As a TICK begins (TICK is 1 more; 2000 at most):");
        Scrubward x = new Scrubward();
        CHECKS.due("the first", x.pass(1), 1);
        for (int i = 1; i < 20; i++) {
            CHECKS.due("pass(100)", x.pass(100), 100 * i + 1);
        }
        CHECKS.due("the one ahead of the last", x.pass(98), 1999);
        CHECKS.dueState(x, "one behind the last", () -> x.pass(2));
        CHECKS.due("the last", x.pass(1), 2000);
        CHECKS.dueState(x, "behind the last", () -> x.pass(1));
        CHECKS.due("at the last the rest goes on", x.write(0, 255), 1791);
    }

    private static void leaksFirst() {
        DOC.quote(TICKS, "WEAK cells whose SPAN is over leak (in the order in which they were told);");
        Scrubward x = new Scrubward();
        x.write(0, 255);
        x.weak(0, 1, 2);
        x.weak(0, 0, 1);
        x.weak(0, 0, 60);
        x.pass(1);
        CHECKS.due("of two for one bit the shorter one", x.ofWord(0, 0), 1790);
        x.pass(1);
        CHECKS.due("then the longer span", x.ofWord(0, 0), 1788);
    }

    private static void thenRefreshed() {
        DOC.quote(TICKS, "then, if TICK is a multiple of PERIOD, all is REFRESHED;");
        Scrubward x = new Scrubward();
        x.write(0, 3);
        x.weak(0, 0, 16);
        x.weak(0, 1, 17);
        x.pass(16);
        CHECKS.due("a span of PERIOD leaks ahead of it", x.ofWord(0, 0), x.encode(3) - 1);
        x.pass(100);
        CHECKS.due("a longer one never does", x.ofWord(0, 0), x.encode(3) - 1);
    }

    private static void patrolSteps() {
        DOC.quote(TICKS, "then the PATROL scrubs as many WORDS as it has STEPS (0 to 8; 0 at first), from the ADDRESS "
                + "where it stands on (0 at first; behind 127 again 0):");
        Scrubward x = new Scrubward();
        x.ray(0, 1);
        x.pass(1);
        CHECKS.due("0 steps at first", x.board(8), 0);
        CHECKS.due("nothing is scrubbed", x.ofWord(0, 0), 1);
        x.run(16, 20, 1, false, false);
        x.pass(1);
        CHECKS.due("1 step", x.board(8), 1);
        CHECKS.due("from 0 on", x.ofWord(0, 0), 0);
        x.run(16, 20, 8, false, false);
        x.pass(15);
        CHECKS.due("8 steps", x.board(8), 121);
        for (int address : new int[] {126, 127, 0, 1}) {
            x.ray(address, 1);
        }
        x.run(16, 20, 7, false, false);
        x.pass(1);
        CHECKS.due("behind 127 again 0", x.board(8), 0);
        CHECKS.due("127 is scrubbed", x.ofWord(127, 0), 0);
        CHECKS.due("0 is not", x.ofWord(0, 0), 1);
        x.run(16, 20, 1, false, false);
        x.pass(1);
        CHECKS.due("0 is scrubbed", x.ofWord(0, 0), 0);
        CHECKS.due("1 is not", x.ofWord(1, 0), 1);
        CHECKS.dueArgument(x, "9 steps", () -> x.run(16, 20, 9, false, false));
        CHECKS.dueArgument(x, "-1 steps", () -> x.run(16, 20, -1, false, false));
    }

    private static void patrolScrubs() {
        DOC.quote(TICKS, "WORDS that are not POISONED and not RETIRED are DECODED (nothing is opened): MENDED ones are "
                + "logged and written back (also with DEMAND off); BAD ones are logged and POISONED.");
        Scrubward x = new Scrubward();
        x.run(16, 20, 3, false, false);
        x.ray(0, 4096);
        x.ray(1, 3);
        x.pass(1);
        CHECKS.due("mended", x.ofWord(0, 0), 0);
        CHECKS.due("bad stays", x.ofWord(1, 0), 3);
        CHECKS.due("poisoned", x.board(12), 1);
        CHECKS.due("poisoned", x.ofWord(1, 2), 1);
        CHECKS.due("entries", x.board(9), 2);
        CHECKS.due("the bit of the mended one", x.ofEntry(0, 1), 12);
        CHECKS.due("the bit of the bad one", x.ofEntry(1, 1), -1);
        CHECKS.due("nothing is opened", x.ofLine(0, 0, 0), 0);
        CHECKS.due("nothing is opened", x.ofLine(0, 0, 2), 1);
    }

    private static void patrolPasses() {
        DOC.quote(TICKS, "(Others use up a STEP, too.)");
        Scrubward x = new Scrubward();
        x.ray(0, 3);
        x.read(0);
        x.ray(0, 1);
        x.ray(1, 1);
        x.retire(1, true);
        x.ray(2, 3);
        x.retire(2, true);
        x.ray(3, 1);
        x.run(16, 20, 3, true, true);
        x.pass(1);
        CHECKS.due("three steps", x.board(8), 3);
        CHECKS.due("a poisoned one is not mended", x.ofWord(0, 0), 2);
        CHECKS.due("a retired one is not mended", x.ofWord(1, 0), 1);
        CHECKS.due("a retired one is not poisoned", x.ofWord(2, 2), 0);
        CHECKS.due("no step is left for the next", x.ofWord(3, 0), 1);
        CHECKS.due("entries", x.board(9), 1);
    }

    // ---- 5. Logs and blame

    private static void log() {
        logAtMost();
        logEntries();
        blameOfBank();
        blameChip();
        blameRow();
        blameColumn();
        blameCell();
        blameNone();
        blameSmallest();
    }

    /** A word that is mended, logged and clean again. */
    private static void mend(Scrubward x, int address, int bit) {
        x.ray(address, 1 << bit);
        x.read(address);
        x.ray(address, 1 << bit);
    }

    private static void dueBlame(String what, Scrubward x, int bank, int kind, int number) {
        CHECKS.due(what + ": BLAME", x.blame(bank, false), kind);
        CHECKS.due(what + ": what is blamed", x.blame(bank, true), number);
    }

    private static void logAtMost() {
        DOC.quote(LOG, "The LOG has at most 40 ENTRIES (what comes behind is counted alone):");
        Scrubward x = new Scrubward();
        for (int i = 1; i <= 39; i++) {
            mend(x, i, 0);
        }
        CHECKS.due("one is free", x.board(9), 39);
        mend(x, 40, 1);
        CHECKS.due("it is full", x.board(9), 40);
        mend(x, 41, 2);
        x.ray(42, 3);
        x.read(42);
        CHECKS.due("it stays full", x.board(9), 40);
        CHECKS.due("the last entry", x.ofEntry(39, 0), 40);
        CHECKS.due("mended ever", x.board(10), 41);
        CHECKS.due("bad ever", x.board(11), 1);
        CHECKS.due("behind it is poisoned all the same", x.ofWord(42, 2), 1);
        CHECKS.dueIndex(x, "behind the last entry", () -> x.ofEntry(40, 0));
        CHECKS.due("entries that it had", x.clear(), 40);
        mend(x, 43, 3);
        CHECKS.due("the first again", x.ofEntry(0, 0), 43);
    }

    private static void logEntries() {
        DOC.quote(LOG, "the ADDRESS, the bit that was mended (NONE of a BAD one), and the TICK.");
        Scrubward x = new Scrubward();
        mend(x, 0, 0);
        x.pass(100);
        mend(x, 127, 12);
        x.ray(64, 3);
        x.read(64);
        int[][] due = {{0, 0, 0}, {127, 12, 100}, {64, -1, 100}};
        for (int entry = 0; entry < 3; entry++) {
            for (int what = 0; what < 3; what++) {
                CHECKS.due("ofEntry(" + entry + ", " + what + ")", x.ofEntry(entry, what), due[entry][what]);
            }
        }
    }

    private static void blameOfBank() {
        DOC.quote(LOG, "BLAME of a BANK, by the MENDED ENTRIES of it in the LOG, the first that holds:");
        Scrubward x = new Scrubward();
        mend(x, 0, 0);
        mend(x, 8, 0);
        mend(x, 64 + 16, 0);
        dueBlame("two of one bank, one of the other", x, 0, 0, -1);
        for (int address : new int[] {24, 32, 40}) {
            x.ray(address, 3);
            x.read(address);
        }
        dueBlame("bad ones do not count", x, 0, 0, -1);
        mend(x, 0, 1);
        mend(x, 0, 1);
        dueBlame("a cell", x, 0, 4, 0);
        mend(x, 16, 2);
        dueBlame("a column ahead of a cell", x, 0, 3, 0);
        mend(x, 17, 3);
        mend(x, 18, 4);
        dueBlame("a row ahead of a column", x, 0, 2, 2);
        mend(x, 57, 0);
        dueBlame("a chip ahead of a row", x, 0, 1, 0);
        x.clear();
        dueBlame("an empty log", x, 0, 0, -1);
        for (int i = 0; i < 39; i++) {
            x.read(64 + 16);
            mend(x, 64 + 16, 5);
        }
        mend(x, 0, 0);
        mend(x, 0, 0);
        dueBlame("what comes behind the 40 is not in the log", x, 0, 0, -1);
    }

    private static void blameChip() {
        DOC.quote(LOG, "1 a CHIP: 3 ENTRIES or more with the same bit at 3 different ROWS or more;");
        Scrubward x = new Scrubward();
        mend(x, 0, 12);
        mend(x, 9, 12);
        mend(x, 2, 12);
        dueBlame("3 entries at 2 rows", x, 0, 0, -1);
        mend(x, 63, 11);
        dueBlame("another bit at the third row", x, 0, 0, -1);
        mend(x, 63, 12);
        dueBlame("4 entries at 3 rows", x, 0, 1, 12);
        Scrubward y = new Scrubward();
        y.code(10, 6);
        for (int row = 0; row < 8; row++) {
            mend(y, 64 + 9 * row, 15);
        }
        dueBlame("the last bit at all rows", y, 1, 1, 15);
    }

    private static void blameRow() {
        DOC.quote(LOG, "2 a ROW: 3 or more at one ROW and 3 different PLACES or more;");
        Scrubward x = new Scrubward();
        mend(x, 120, 0);
        mend(x, 127, 1);
        mend(x, 127, 2);
        dueBlame("3 entries at 2 places", x, 1, 0, -1);
        mend(x, 118, 3);
        dueBlame("the third place at another row", x, 1, 0, -1);
        mend(x, 121, 3);
        dueBlame("4 entries at 3 places", x, 1, 2, 7);
        dueBlame("the other bank", x, 0, 0, -1);
    }

    private static void blameColumn() {
        DOC.quote(LOG, "3 a COLUMN: 3 or more with the same PLACE at 3 different ROWS or more;");
        Scrubward x = new Scrubward();
        mend(x, 7, 0);
        mend(x, 63, 1);
        mend(x, 63, 2);
        dueBlame("3 entries at 2 rows", x, 0, 0, -1);
        mend(x, 30, 3);
        dueBlame("the third row at another place", x, 0, 0, -1);
        mend(x, 31, 4);
        dueBlame("4 entries at 3 rows", x, 0, 3, 7);
        dueBlame("the other bank", x, 1, 0, -1);
    }

    private static void blameCell() {
        DOC.quote(LOG, "4 a CELL: 2 or more of one ADDRESS and bit;");
        Scrubward x = new Scrubward();
        mend(x, 127, 12);
        dueBlame("1 entry", x, 1, 0, -1);
        mend(x, 127, 11);
        dueBlame("one address, two bits", x, 1, 0, -1);
        mend(x, 126, 11);
        dueBlame("one bit, two addresses", x, 1, 0, -1);
        mend(x, 127, 12);
        dueBlame("2 entries", x, 1, 4, 127);
        mend(x, 127, 12);
        dueBlame("3 entries", x, 1, 4, 127);
    }

    private static void blameNone() {
        DOC.quote(LOG, "0 otherwise.");
        Scrubward x = new Scrubward();
        dueBlame("a new object", x, 0, 0, -1);
        mend(x, 0, 0);
        dueBlame("1 entry", x, 0, 0, -1);
        dueBlame("the other bank", x, 1, 0, -1);
    }

    private static void blameSmallest() {
        DOC.quote(LOG, "What is blamed: that bit, ROW, PLACE, or ADDRESS; of several the smallest number.");
        Scrubward x = new Scrubward();
        mend(x, 127, 1);
        mend(x, 127, 1);
        dueBlame("an address is told with its bank", x, 1, 4, 127);
        mend(x, 64, 12);
        mend(x, 64, 12);
        dueBlame("the smaller address, though its bit is greater", x, 1, 4, 64);
        Scrubward y = new Scrubward();
        int[][] mended = {{127, 9}, {118, 9}, {109, 9}, {64, 8}, {73, 8}, {82, 8}};
        for (int[] pair : mended) {
            mend(y, pair[0], pair[1]);
        }
        dueBlame("the smaller bit, though it was told later", y, 1, 1, 8);
        Scrubward z = new Scrubward();
        int[][] rows = {{120, 0}, {121, 1}, {122, 2}, {80, 3}, {81, 4}, {82, 5}};
        for (int[] pair : rows) {
            mend(z, pair[0], pair[1]);
        }
        dueBlame("the smaller row, told within its bank", z, 1, 2, 2);
        Scrubward v = new Scrubward();
        int[][] places = {{71, 0}, {79, 1}, {87, 2}, {100, 3}, {108, 4}, {116, 5}};
        for (int[] pair : places) {
            mend(v, pair[0], pair[1]);
        }
        dueBlame("the smaller place", v, 1, 3, 4);
    }

    // ---- 6. Repairs

    private static void repairs() {
        spareIsFirst();
        spareWrites();
        spareLeaves();
        retiredIsRefused();
        nurseIsRefused();
        thrownChangesNothing();
        firstNamedIsThrown();
    }

    private static void spareIsFirst() {
        DOC.quote(REPAIRS, "To SPARE a ROW: the first SPARE of its BANK that was never used is its LINE;");
        Scrubward x = new Scrubward();
        x.spare(0, 7);
        CHECKS.due("the first", x.ofWord(63, 4), 8);
        x.spare(0, 7);
        CHECKS.due("the second, though the first is free again", x.ofWord(63, 4), 9);
        CHECKS.dueState(x, "there is no third", () -> x.spare(0, 0));
        x.spare(1, 0);
        CHECKS.due("the first of the other bank", x.ofWord(64, 4), 8);
    }

    private static void spareWrites() {
        DOC.quote(REPAIRS, "each of its WORDS, by PLACES, is DECODED: CLEAN and MENDED ones are written there mended, "
                + "BAD ones as they are, and these are POISONED.");
        Scrubward x = new Scrubward();
        x.write(0, 255);
        x.write(7, 255);
        x.ray(7, 4096);
        x.ray(6, 3);
        x.ray(5, 3);
        x.retire(5, true);
        x.spare(0, 0);
        CHECKS.due("clean", x.ofWord(0, 0), 1791);
        CHECKS.due("mended", x.ofWord(7, 0), 1791);
        CHECKS.due("bad", x.ofWord(6, 0), 3);
        CHECKS.due("poisoned", x.ofWord(6, 2), 1);
        CHECKS.due("bad and retired", x.ofWord(5, 0), 3);
        CHECKS.due("poisoned and retired", x.ofWord(5, 2), 1);
        CHECKS.due("poisoned in all", x.board(12), 2);
    }

    private static void spareLeaves() {
        DOC.quote(REPAIRS, "(Nothing is logged or opened; POISON stays; what is STUCK there is so.)");
        Scrubward x = new Scrubward();
        x.ray(0, 3);
        x.read(0);
        x.ray(0, 1);
        x.ray(1, 1);
        x.spare(0, 0);
        CHECKS.due("entries", x.board(9), 1);
        CHECKS.due("the old line is not opened", x.ofLine(0, 0, 0), 1);
        CHECKS.due("nor is the spare", x.ofLine(0, 8, 0), 0);
        CHECKS.due("poison stays", x.ofWord(0, 2), 1);
        CHECKS.due("though it is mended", x.ofWord(0, 0), 0);
        // The first spare is for no row any more, but what was stuck in it stays in it.
        x.stick(2, 0, true);
        x.spare(0, 0);
        CHECKS.due("mended there, not stuck any more", x.ofWord(2, 0), 0);
        CHECKS.due("stuck where it was", x.ofLine(0, 8, 4), 1);
    }

    private static void retiredIsRefused() {
        DOC.quote(REPAIRS, "To RETIRE a WORD: it is not written and not read any more (refused).");
        Scrubward x = new Scrubward();
        x.write(127, 1);
        x.retire(127, true);
        CHECKS.dueState(x, "write", () -> x.write(127, 1));
        CHECKS.dueState(x, "read", () -> x.read(127));
        CHECKS.due("that is not what the nurse counts", x.board(17), 0);
        CHECKS.due("rays come all the same", x.ray(127, 1), 1792);
        x.retire(127, false);
        CHECKS.due("taken back", x.read(127), 1);
    }

    private static void nurseIsRefused() {
        DOC.quote(REPAIRS, "The NIGHT NURSE of the machine sleeps: who calls holds no lamp, and is REFUSED (counted).");
        Scrubward x = new Scrubward();
        CHECKS.due("none at first", x.board(17), 0);
        CHECKS.due("the first", x.call(), 1);
        CHECKS.due("the second", x.call(), 2);
        CHECKS.due("counted", x.board(17), 2);
    }

    private static void thrownChangesNothing() {
        DOC.quote(REPAIRS, "A method that throws an exception changes nothing.");
        Scrubward busy = Refused.busy();
        int[][] due = {{0, 1999}, {9, 40}, {13, 1}, {14, 24}, {15, 24}};
        for (int[] pair : due) {
            CHECKS.due("busy: board(" + pair[0] + ")", busy.board(pair[0]), pair[1]);
        }
        CHECKS.due("busy: the second spare of bank 0", busy.ofLine(0, 9, 1), 5);
        for (int call = 0; call < Refused.CALLS; call++) {
            Scrubward refused = Refused.busy();
            Scrubward other = Refused.busy();
            CHECKS.dueText("refused call " + call, Refused.answer(refused, call), Refused.due(call));
            CHECKS.dueText("behind the refused call " + call, Refused.later(refused), Refused.later(other));
        }
    }

    private static void firstNamedIsThrown() {
        DOC.quote(REPAIRS, "If several exceptions apply, the one that is named first is thrown.");
        Scrubward x = Refused.busy();
        CHECKS.dueIndex(x, "write: address, data", () -> x.write(128, 256));
        CHECKS.dueArgument(x, "write: data, retired", () -> x.write(127, 256));
        CHECKS.dueIndex(x, "ray: address, bits", () -> x.ray(-1, 0));
        CHECKS.dueIndex(x, "stick: address, bit, 24", () -> x.stick(128, 13, true));
        CHECKS.dueIndex(x, "stick: address, 24", () -> x.stick(128, 12, true));
        CHECKS.dueArgument(x, "stick: bit, 24", () -> x.stick(0, 13, true));
        CHECKS.dueIndex(x, "weak: address, bit, span, 24", () -> x.weak(128, 13, 61));
        CHECKS.dueIndex(x, "weak: address, 24", () -> x.weak(-1, 12, 60));
        CHECKS.dueArgument(x, "weak: bit, 24", () -> x.weak(0, 13, 60));
        CHECKS.dueArgument(x, "weak: span, 24", () -> x.weak(0, 12, 0));
        CHECKS.dueIndex(x, "hammer: bank, times", () -> x.hammer(2, 0, 0));
        CHECKS.dueIndex(x, "hammer: row, times", () -> x.hammer(0, 8, 101));
        CHECKS.dueIndex(x, "spare: bank", () -> x.spare(2, 0));
        CHECKS.dueIndex(x, "spare: row, both used", () -> x.spare(0, 8));
        CHECKS.dueArgument(x, "pass: ticks, above 2000", () -> x.pass(101));
        CHECKS.dueIndex(x, "ofWord: address, what", () -> x.ofWord(128, 7));
        CHECKS.dueIndex(x, "ofLine: bank, what", () -> x.ofLine(2, 0, 5));
        CHECKS.dueIndex(x, "ofLine: line, what", () -> x.ofLine(0, 10, 5));
        CHECKS.dueIndex(x, "ofEntry: entry, what", () -> x.ofEntry(40, 3));
    }
}
