/**
 * Every sentence of the promises 1 to 30, quoted, with a test at the edges that it names: the last
 * value that is taken, the first that is refused, and those that are far away.
 */
final class PromisesEdgesTest {
    private static final Checks CHECKS = new Checks();
    private static final Document DOC = new Document(CHECKS);
    private static final String NO_ADDRESS =
            "Throws `IndexOutOfBoundsException` if there is no such ADDRESS (0 to 127)";
    private static final String NO_BANK = "Throws `IndexOutOfBoundsException` if bank is not 0 or 1";
    private static final String NO_ROW = "Throws `IndexOutOfBoundsException` if bank is not 0 or 1, or row not 0 to 7";
    private static final String NO_BIT = "Throws `IllegalArgumentException` if bit is not 0 to K + R - 1";
    private static final String RETURNS_THAT = "Returns that.";

    public static void main(String[] args) {
        toldAndDone();
        asked();
        wouldBe();
        DOC.dueAllQuoted("Promise ");
        CHECKS.end();
    }

    /** The two numbers just outside of a range, and the two that are farthest. */
    private static int[] outside(int from, int to) {
        return new int[] {from - 1, to + 1, Integer.MIN_VALUE, Integer.MAX_VALUE};
    }

    private static void says(int promise, String words) {
        DOC.quote("Promise " + promise, words);
    }

    // ---- what is told and done

    private static void toldAndDone() {
        newObject();
        codeMakes();
        codeLeaves();
        codeRefuses();
        write();
        writeRefuses();
        read();
        readRefuses();
        ray();
        stick();
        weak();
        hammer();
        run();
        spare();
        retire();
        pass();
        clear();
        call();
    }

    private static void newObject() {
        says(1, "Creates a memory with a CODE of 8 data bits and 5 check bits.");
        Scrubward x = new Scrubward();
        CHECKS.due("K", x.board(1), 8);
        CHECKS.due("R", x.board(2), 5);
        CHECKS.due("the last column", x.column(12), 16);
        CHECKS.dueIndex(x, "behind it", () -> x.column(13));
    }

    private static void codeMakes() {
        says(2, "Makes a CODE anew: all WORDS of all LINES are 0 then, but what is STUCK");
        says(2, "Returns how many bits a WORD has.");
        Scrubward x = new Scrubward();
        x.ray(0, 3);
        x.spare(0, 0);
        x.spare(0, 0);
        x.stick(127, 8, true);
        x.stick(127, 9, false);
        CHECKS.due("the least", x.code(4, 4), 8);
        CHECKS.due("a stuck bit that there is not any more", x.ofWord(127, 0), 0);
        x.stick(127, 7, true);
        CHECKS.due("the most", x.code(10, 6), 16);
        CHECKS.due("a stuck bit", x.ofWord(127, 0), 128);
        for (int line = 0; line < 10; line++) {
            CHECKS.due("a line of bank 0", x.ofLine(0, line, 4), 0);
            CHECKS.due("a line of bank 1", x.ofLine(1, line, 4), line == 7 ? 1 : 0);
        }
    }

    private static void codeLeaves() {
        says(2, "(STUCK and WEAK cells of bits that there are not any more are gone; POISON and the ENTRIES of the "
                + "LOG are gone, COUNTS of LINES are 0; all else stays).");
        Scrubward x = new Scrubward();
        for (int bit = 0; bit < 13; bit++) {
            x.stick(0, bit, true);
            x.weak(1, bit, 60);
        }
        x.ray(64, 3);
        x.read(64);
        x.pass(1);
        x.spare(1, 7);
        x.retire(127, true);
        x.code(8, 4 + 1);
        CHECKS.due("as wide as it was: stuck", x.board(14), 13);
        x.code(7, 5);
        CHECKS.due("one bit less: stuck", x.board(14), 12);
        CHECKS.due("one bit less: weak", x.board(15), 12);
        CHECKS.due("the last bit is stuck", x.ofWord(0, 0), 4095);
        x.code(8, 5);
        CHECKS.due("they do not come back", x.ofWord(0, 0), 4095);
        CHECKS.due("there is room again", x.stick(0, 12, false), 13);
        CHECKS.due("poison", x.board(12), 0);
        CHECKS.due("entries", x.board(9), 0);
        CHECKS.due("count", x.ofLine(1, 0, 0), 0);
        CHECKS.due("bad ever", x.board(11), 1);
        CHECKS.due("ticks since it was opened", x.ofLine(1, 0, 2), 1);
        CHECKS.due("line", x.ofWord(127, 4), 8);
        CHECKS.due("retired", x.ofWord(127, 3), 1);
        CHECKS.due("TICK", x.board(0), 1);
        CHECKS.due("one spare is used", x.spare(1, 0), 2);
    }

    private static void codeRefuses() {
        says(2, "Throws `IllegalArgumentException` if k is not 4 to 10, r not 4 to 6, or there are not K COLUMNS of "
                + "data bits");
        Scrubward x = new Scrubward();
        for (int k : outside(4, 10)) {
            CHECKS.dueArgument(x, "k of " + k, () -> x.code(k, 6));
        }
        for (int r : outside(4, 6)) {
            CHECKS.dueArgument(x, "r of " + r, () -> x.code(4, r));
        }
        for (int k = 5; k <= 10; k++) {
            int many = k;
            CHECKS.dueArgument(x, k + " columns with R of 4", () -> x.code(many, 4));
        }
        CHECKS.due("4 columns with R of 4", x.code(4, 4), 8);
    }

    private static void write() {
        says(3, "WRITES.");
        says(3, "Returns the WORD there then.");
        Scrubward x = new Scrubward();
        CHECKS.due("the first address, the least data", x.write(0, 0), 0);
        CHECKS.due("the last address, the most data", x.write(127, 255), 1791);
        x.stick(64, 0, true);
        x.run(16, 20, 0, false, true);
        CHECKS.due("not the one of the other bank", x.write(0, 0), 0);
        CHECKS.due("with what is stuck", x.write(64, 0), 1);
    }

    private static void writeRefuses() {
        says(3, NO_ADDRESS);
        says(3, "Throws `IllegalArgumentException` if data is not 0 to 2^K - 1");
        says(3, "Throws `IllegalStateException` if it is RETIRED");
        Scrubward x = new Scrubward();
        x.retire(5, true);
        for (int address : outside(0, 127)) {
            CHECKS.dueIndex(x, "address " + address, () -> x.write(address, 0));
        }
        for (int data : outside(0, 255)) {
            CHECKS.dueArgument(x, "data " + data, () -> x.write(127, data));
        }
        CHECKS.dueState(x, "a retired one", () -> x.write(5, 0));
        CHECKS.due("beside it", x.write(4, 0) + x.write(6, 0), 0);
        for (int[] code : new int[][] {{4, 4}, {10, 6}}) {
            x.code(code[0], code[1]);
            int most = (1 << code[0]) - 1;
            CHECKS.due("2^K - 1", x.write(0, most) & most, most);
            CHECKS.dueArgument(x, "2^K", () -> x.write(0, most + 1));
        }
        x.run(16, 20, 0, false, true);
        CHECKS.dueState(x, "mirrored: a retired one", () -> x.write(5, 0));
        CHECKS.due("the other one of it is written", x.write(69, 1) & 1, 1);
    }

    private static void read() {
        says(4, "READS.");
        says(4, "Returns DATA; NONE, if none is told.");
        Scrubward x = new Scrubward();
        x.write(127, 255);
        CHECKS.due("the least data", x.read(0), 0);
        CHECKS.due("the most data", x.read(127), 255);
        x.ray(127, 3);
        CHECKS.due("none", x.read(127), -1);
        CHECKS.due("none again", x.read(127), -1);
    }

    private static void readRefuses() {
        says(4, NO_ADDRESS);
        says(4, "Throws `IllegalStateException` if it is RETIRED");
        Scrubward x = new Scrubward();
        x.retire(5, true);
        for (int address : outside(0, 127)) {
            CHECKS.dueIndex(x, "address " + address, () -> x.read(address));
        }
        CHECKS.dueState(x, "a retired one", () -> x.read(5));
        CHECKS.due("beside it", x.read(4) + x.read(6), 0);
        x.run(16, 20, 0, false, true);
        x.ray(69, 3);
        CHECKS.dueState(x, "mirrored: a retired one", () -> x.read(5));
        CHECKS.due("the other one of it is told alone", x.read(69), -1);
    }

    private static void ray() {
        says(5, "A RAY turns bits of a WORD.");
        says(5, "Returns the WORD there then.");
        says(5, NO_ADDRESS);
        says(5, "Throws `IllegalArgumentException` if bits is not 1 to 2^(K + R) - 1");
        Scrubward x = new Scrubward();
        CHECKS.due("the least set", x.ray(0, 1), 1);
        CHECKS.due("the greatest set", x.ray(127, 8191), 8191);
        CHECKS.due("turned back", x.ray(127, 8191), 0);
        for (int address : outside(0, 127)) {
            CHECKS.dueIndex(x, "address " + address, () -> x.ray(address, 1));
        }
        for (int bits : outside(1, 8191)) {
            CHECKS.dueArgument(x, "bits " + bits, () -> x.ray(127, bits));
        }
        x.code(4, 4);
        CHECKS.due("the greatest set of 8", x.ray(0, 255), 255);
        CHECKS.dueArgument(x, "behind it", () -> x.ray(0, 256));
        x.code(10, 6);
        CHECKS.due("the greatest set of 16", x.ray(0, 65535), 65535);
        CHECKS.dueArgument(x, "behind it", () -> x.ray(0, 65536));
    }

    private static void stick() {
        says(6, "Tells a STUCK cell.");
        says(6, "Returns how many there are then.");
        says(6, NO_ADDRESS);
        says(6, "`isOne`: whether at 1");
        says(6, NO_BIT);
        says(6, "Throws `IllegalStateException` if there are 24");
        Scrubward x = new Scrubward();
        CHECKS.due("the first address and bit", x.stick(0, 0, false), 1);
        CHECKS.due("the last address and bit", x.stick(127, 12, true), 2);
        CHECKS.due("not at 1", x.ray(0, 1), 0);
        CHECKS.due("at 1", x.ray(127, 4096), 4096);
        for (int address : outside(0, 127)) {
            CHECKS.dueIndex(x, "address " + address, () -> x.stick(address, 0, true));
        }
        for (int bit : outside(0, 12)) {
            CHECKS.dueArgument(x, "bit " + bit, () -> x.stick(127, bit, true));
        }
        for (int many = 3; many <= 24; many++) {
            CHECKS.due("there is room", x.stick(many, 0, true), many);
        }
        CHECKS.dueState(x, "there are 24", () -> x.stick(0, 0, false));
        CHECKS.dueState(x, "also for a bit that is told already", () -> x.stick(127, 12, true));
        x.code(4, 4);
        CHECKS.due("one is gone: there is room", x.stick(127, 7, true), 24);
        CHECKS.dueArgument(x, "of 8 bits the bit 8", () -> x.stick(0, 8, true));
    }

    private static void weak() {
        says(7, "Tells a WEAK cell.");
        says(7, "Returns how many there are then.");
        says(7, NO_ADDRESS);
        says(7, "Throws `IllegalArgumentException` if bit is not 0 to K + R - 1, or span not 1 to 60");
        says(7, "Throws `IllegalStateException` if there are 24");
        Scrubward x = new Scrubward();
        CHECKS.due("the first address and bit, the least span", x.weak(0, 0, 1), 1);
        CHECKS.due("the last address and bit, the greatest span", x.weak(127, 12, 60), 2);
        for (int address : outside(0, 127)) {
            CHECKS.dueIndex(x, "address " + address, () -> x.weak(address, 0, 1));
        }
        for (int bit : outside(0, 12)) {
            CHECKS.dueArgument(x, "bit " + bit, () -> x.weak(127, bit, 1));
        }
        for (int span : outside(1, 60)) {
            CHECKS.dueArgument(x, "span " + span, () -> x.weak(127, 12, span));
        }
        for (int many = 3; many <= 24; many++) {
            CHECKS.due("there is room", x.weak(many, 0, 60), many);
        }
        CHECKS.dueState(x, "there are 24", () -> x.weak(0, 0, 1));
        x.code(4, 4);
        CHECKS.due("one is gone: there is room", x.weak(127, 7, 60), 24);
        CHECKS.dueArgument(x, "of 8 bits the bit 8", () -> x.weak(0, 8, 1));
    }

    private static void hammer() {
        says(8, "Opens the LINE of a ROW again and again.");
        says(8, "Returns its COUNT then.");
        says(8, NO_ROW);
        says(8, "Throws `IllegalArgumentException` if times is not 1 to 100");
        Scrubward x = new Scrubward();
        CHECKS.due("once", x.hammer(0, 0, 1), 1);
        CHECKS.due("100 times", x.hammer(0, 0, 100), 101);
        CHECKS.due("the last row", x.hammer(1, 7, 100), 100);
        for (int bank : outside(0, 1)) {
            CHECKS.dueIndex(x, "bank " + bank, () -> x.hammer(bank, 0, 1));
        }
        for (int row : outside(0, 7)) {
            CHECKS.dueIndex(x, "row " + row, () -> x.hammer(1, row, 1));
        }
        for (int times : outside(1, 100)) {
            CHECKS.dueArgument(x, "times " + times, () -> x.hammer(1, 7, times));
        }
        x.spare(1, 7);
        CHECKS.due("the line that it has now", x.hammer(1, 7, 1), 1);
        CHECKS.due("not the old one", x.ofLine(1, 7, 0), 100);
        x.pass(16);
        CHECKS.due("refreshed", x.hammer(1, 7, 1), 1);
        hammerRetired();
    }

    private static void hammerRetired() {
        Scrubward x = new Scrubward();
        for (int address = 0; address < 128; address++) {
            x.retire(address, true);
        }
        CHECKS.due("retired words are no hindrance", x.hammer(0, 0, 20), 20);
        CHECKS.due("they are hammered, too", x.ofWord(8 + 5, 0), 1 << 128 % 13);
    }

    private static void run() {
        says(9, "Tells how it is run.");
        says(9, "Returns STEPS before.");
        says(9, "Throws `IllegalArgumentException` if period is not 1 to 100, limit not 2 to 100, or steps not 0 to 8");
        Scrubward x = new Scrubward();
        CHECKS.due("the least", x.run(1, 2, 0, false, false), 0);
        CHECKS.due("the most", x.run(100, 100, 8, true, true), 0);
        CHECKS.due("the steps of these", x.run(1, 2, 0, true, false), 8);
        for (int period : outside(1, 100)) {
            CHECKS.dueArgument(x, "period " + period, () -> x.run(period, 20, 5, false, true));
        }
        for (int limit : outside(2, 100)) {
            CHECKS.dueArgument(x, "limit " + limit, () -> x.run(16, limit, 5, false, true));
        }
        for (int steps : outside(0, 8)) {
            CHECKS.dueArgument(x, "steps " + steps, () -> x.run(16, 20, steps, false, true));
        }
        int[] due = {1, 2, 0, 1, 0};
        for (int i = 0; i < 5; i++) {
            CHECKS.due("board(" + (3 + i) + ")", x.board(3 + i), due[i]);
        }
    }

    private static void spare() {
        says(10, "SPARES a ROW.");
        says(10, "Returns how many SPARES of that BANK are used then.");
        says(10, NO_ROW);
        says(10, "Throws `IllegalStateException` if both SPARES of that BANK are used");
        Scrubward x = new Scrubward();
        for (int bank : outside(0, 1)) {
            CHECKS.dueIndex(x, "bank " + bank, () -> x.spare(bank, 0));
        }
        for (int row : outside(0, 7)) {
            CHECKS.dueIndex(x, "row " + row, () -> x.spare(1, row));
        }
        CHECKS.due("the first row", x.spare(0, 0), 1);
        CHECKS.due("the last row of the other bank", x.spare(1, 7), 1);
        CHECKS.due("the second of that bank", x.spare(1, 7), 2);
        CHECKS.dueState(x, "both are used", () -> x.spare(1, 0));
        CHECKS.due("one of the first bank is left", x.spare(0, 7), 2);
        CHECKS.dueState(x, "both are used", () -> x.spare(0, 7));
        x.code(4, 4);
        CHECKS.dueState(x, "a new code brings none", () -> x.spare(0, 0));
    }

    private static void retire() {
        says(11, "RETIRES a WORD, or takes it back.");
        says(11, "Returns how many are RETIRED then.");
        says(11, NO_ADDRESS);
        Scrubward x = new Scrubward();
        CHECKS.due("none to take back", x.retire(0, false), 0);
        for (int address = 0; address < 128; address++) {
            CHECKS.due("retired", x.retire(address, true), address + 1);
        }
        CHECKS.due("all, one of them again", x.retire(127, true), 128);
        for (int address : outside(0, 127)) {
            CHECKS.dueIndex(x, "address " + address, () -> x.retire(address, true));
            CHECKS.dueIndex(x, "address " + address, () -> x.retire(address, false));
        }
        CHECKS.dueText("a row of them", x.tell(1, 7), "xxxxxxxx");
        for (int address = 127; address >= 0; address--) {
            CHECKS.due("taken back", x.retire(address, false), address);
        }
    }

    private static void pass() {
        says(12, "Lets TICKS go by, one by one.");
        says(12, "Returns TICK then.");
        says(12, "Throws `IllegalArgumentException` if ticks is not 1 to 100");
        says(12, "Throws `IllegalStateException` if TICK would be above 2000");
        Scrubward x = new Scrubward();
        CHECKS.due("the least", x.pass(1), 1);
        CHECKS.due("the most", x.pass(100), 101);
        for (int ticks : outside(1, 100)) {
            CHECKS.dueArgument(x, "ticks " + ticks, () -> x.pass(ticks));
        }
        for (int i = 2; i < 20; i++) {
            x.pass(100);
        }
        CHECKS.dueState(x, "2001", () -> x.pass(100));
        CHECKS.due("2000", x.pass(99), 2000);
        CHECKS.dueState(x, "2001", () -> x.pass(1));
        for (int ticks : outside(1, 100)) {
            CHECKS.dueArgument(x, "at the end: ticks " + ticks, () -> x.pass(ticks));
        }
    }

    private static void clear() {
        says(13, "Empties the LOG (the counts stay).");
        says(13, "Returns how many ENTRIES it had.");
        Scrubward x = new Scrubward();
        CHECKS.due("an empty one", x.clear(), 0);
        x.ray(0, 1);
        x.ray(64, 3);
        x.read(64);
        for (int i = 0; i < 41; i++) {
            x.read(0);
        }
        CHECKS.due("a full one", x.clear(), 40);
        CHECKS.due("empty again", x.clear(), 0);
        CHECKS.due("entries", x.board(9), 0);
        CHECKS.due("mended ever", x.board(10), 41);
        CHECKS.due("bad ever", x.board(11), 1);
        CHECKS.dueIndex(x, "there is no entry", () -> x.ofEntry(0, 0));
        x.read(0);
        CHECKS.due("it takes entries again", x.clear(), 1);
    }

    private static void call() {
        says(14, "Calls the NURSE.");
        says(14, "Returns how many were REFUSED ever, with this.");
        Scrubward x = new Scrubward();
        for (int many = 1; many <= 511; many++) {
            CHECKS.due("call()", x.call(), many);
        }
        CHECKS.due("the call 512 of this object", x.board(17), 511);
    }

    // ---- what is asked

    private static void asked() {
        column();
        encode();
        decode();
        fooled();
        ofWord();
        ofLine();
        ofEntry();
        blame();
        board();
        health();
        tell();
    }

    private static void column() {
        says(15, "Returns its COLUMN.");
        says(15, "Throws `IndexOutOfBoundsException` if bit is not 0 to K + R - 1");
        int[][] codes = {{4, 4}, {8, 5}, {10, 6}};
        for (int[] code : codes) {
            Scrubward x = new Scrubward();
            int width = x.code(code[0], code[1]);
            CHECKS.due("the first", x.column(0), 7);
            CHECKS.due("the last", x.column(width - 1), 1 << (code[1] - 1));
            for (int bit : outside(0, width - 1)) {
                CHECKS.dueIndex(x, "bit " + bit, () -> x.column(bit));
            }
        }
    }

    private static void encode() {
        says(16, "Returns the WORD that it ENCODES.");
        says(16, "Throws `IllegalArgumentException` if data is not 0 to 2^K - 1");
        int[][] codes = {{4, 4, 255}, {8, 5, 1791}, {10, 6, 1023}};
        for (int[] code : codes) {
            Scrubward x = new Scrubward();
            x.code(code[0], code[1]);
            CHECKS.due("the least", x.encode(0), 0);
            CHECKS.due("the most", x.encode((1 << code[0]) - 1), code[2]);
            for (int data : outside(0, (1 << code[0]) - 1)) {
                CHECKS.dueArgument(x, "data " + data, () -> x.encode(data));
            }
        }
    }

    private static void decode() {
        says(17, "`what`: 0 its SYNDROME, 1 0 CLEAN, 1 MENDED, 2 BAD, 2 the bit that is mended (NONE), 3 DATA of it, "
                + "mended, if it can be (NONE, if it is BAD)");
        says(17, RETURNS_THAT);
        says(17, "Throws `IllegalArgumentException` if word is not 0 to 2^(K + R) - 1, or what not 0 to 3");
        Scrubward x = new Scrubward();
        int[][] due = {{0, 0, 0, -1, 0}, {4096, 16, 1, 12, 0}, {1, 7, 1, 0, 0}, {1791, 0, 0, -1, 255},
            {1663, 25, 1, 7, 255}, {3, 12, 2, -1, -1}, {8191, 25, 1, 7, 127}};
        for (int[] row : due) {
            for (int what = 0; what < 4; what++) {
                CHECKS.due("decode(" + row[0] + ", " + what + ")", x.decode(row[0], what), row[1 + what]);
            }
        }
        for (int word : outside(0, 8191)) {
            CHECKS.dueArgument(x, "word " + word, () -> x.decode(word, 0));
        }
        for (int what : outside(0, 3)) {
            CHECKS.dueArgument(x, "what " + what, () -> x.decode(8191, what));
        }
        x.code(10, 6);
        CHECKS.due("the last word of 16 bits", x.decode(65535, 0), x.decode(65534, 0) ^ 7);
        CHECKS.dueArgument(x, "behind it", () -> x.decode(65536, 0));
    }

    private static void fooled() {
        says(18, "`many`: how many bits, 2 or 3");
        says(18, "Returns how many sets of so many bits of a WORD, turned in a CLEAN one, make it one that is MENDED "
                + "(wrongly).");
        says(18, "Throws `IllegalArgumentException` if many is not 2 or 3");
        Scrubward x = new Scrubward();
        CHECKS.due("2 of 13", x.fooled(2), 0);
        CHECKS.due("3 of 13", x.fooled(3), 220);
        for (int many : outside(2, 3)) {
            CHECKS.dueArgument(x, "many " + many, () -> x.fooled(many));
        }
        // With 4 and 4 bits each odd syndrome is a column, so each of the 56 triples is mended.
        x.code(4, 4);
        CHECKS.due("2 of 8", x.fooled(2), 0);
        CHECKS.due("3 of 8", x.fooled(3), 56);
        x.code(10, 6);
        CHECKS.due("2 of 16", x.fooled(2), 0);
    }

    private static void ofWord() {
        says(19, "`what`: 0 the WORD as it lies there, 1 what DECODE tells of it (0 CLEAN, 1 MENDED, 2 BAD), 2 1 if "
                + "it is POISONED, otherwise 0, 3 1 if it is RETIRED, otherwise 0, 4 its LINE, 5 STUCK cells in it, 6 "
                + "WEAK cells in it");
        says(19, RETURNS_THAT);
        says(19, NO_ADDRESS);
        says(19, "Throws `IllegalArgumentException` if what is not 0 to 6");
        Scrubward x = new Scrubward();
        dueWord(x, 127, 0, 0, 0, 0, 7, 0, 0);
        x.ray(127, 1);
        dueWord(x, 127, 1, 1, 0, 0, 7, 0, 0);
        x.stick(127, 1, true);
        x.weak(127, 12, 60);
        x.weak(127, 12, 60);
        x.read(127);
        x.retire(127, true);
        dueWord(x, 127, 3, 2, 1, 1, 7, 1, 2);
        dueWord(x, 126, 0, 0, 0, 0, 7, 0, 0);
        dueWord(x, 63, 0, 0, 0, 0, 7, 0, 0);
        for (int address : outside(0, 127)) {
            CHECKS.dueIndex(x, "address " + address, () -> x.ofWord(address, 0));
        }
        for (int what : outside(0, 6)) {
            CHECKS.dueArgument(x, "what " + what, () -> x.ofWord(127, what));
        }
    }

    private static void dueWord(Scrubward x, int address, int... due) {
        for (int what = 0; what < due.length; what++) {
            CHECKS.due("ofWord(" + address + ", " + what + ")", x.ofWord(address, what), due[what]);
        }
    }

    private static void ofLine() {
        says(20, "`what`: 0 its COUNT, 1 the ROW that it is for (NONE), 2 TICKS since it was REFRESHED or opened last, "
                + "3 STUCK cells in it, 4 how many of its 8 WORDS are not CLEAN");
        says(20, RETURNS_THAT);
        says(20, "Throws `IndexOutOfBoundsException` if bank is not 0 or 1, or line not 0 to 9");
        says(20, "Throws `IllegalArgumentException` if what is not 0 to 4");
        Scrubward x = new Scrubward();
        x.run(100, 20, 0, false, false);
        x.pass(99);
        x.hammer(1, 7, 2);
        for (int place = 0; place < 8; place++) {
            x.stick(120 + place, 12, true);
        }
        dueLine(x, 1, 7, 2, 7, 0, 8, 8);
        dueLine(x, 1, 6, 0, 6, 99, 0, 0);
        dueLine(x, 1, 9, 0, -1, 99, 0, 0);
        x.spare(1, 7);
        dueLine(x, 1, 7, 2, -1, 0, 8, 8);
        dueLine(x, 1, 8, 0, 7, 99, 0, 0);
        x.pass(1);
        dueLine(x, 1, 7, 0, -1, 0, 8, 8);
        dueLine(x, 0, 0, 0, 0, 0, 0, 0);
        for (int bank : outside(0, 1)) {
            CHECKS.dueIndex(x, "bank " + bank, () -> x.ofLine(bank, 0, 0));
        }
        for (int line : outside(0, 9)) {
            CHECKS.dueIndex(x, "line " + line, () -> x.ofLine(1, line, 0));
        }
        for (int what : outside(0, 4)) {
            CHECKS.dueArgument(x, "what " + what, () -> x.ofLine(1, 9, what));
        }
    }

    private static void dueLine(Scrubward x, int bank, int line, int... due) {
        for (int what = 0; what < due.length; what++) {
            String call = "ofLine(" + bank + ", " + line + ", " + what + ")";
            CHECKS.due(call, x.ofLine(bank, line, what), due[what]);
        }
    }

    private static void ofEntry() {
        says(21, "`what`: 0 its ADDRESS, 1 the bit (NONE), 2 the TICK");
        says(21, RETURNS_THAT);
        says(21, "Throws `IndexOutOfBoundsException` if there is no such ENTRY");
        says(21, "Throws `IllegalArgumentException` if what is not 0 to 2");
        Scrubward x = new Scrubward();
        CHECKS.dueIndex(x, "an empty log", () -> x.ofEntry(0, 0));
        x.ray(127, 4096);
        x.read(127);
        CHECKS.dueIndex(x, "behind the only one", () -> x.ofEntry(1, 0));
        x.pass(1);
        x.ray(127, 1);
        x.read(127);
        int[][] due = {{127, 12, 0}, {127, -1, 1}};
        for (int entry = 0; entry < 2; entry++) {
            for (int what = 0; what < 3; what++) {
                CHECKS.due("ofEntry(" + entry + ", " + what + ")", x.ofEntry(entry, what), due[entry][what]);
            }
        }
        for (int entry : outside(0, 1)) {
            CHECKS.dueIndex(x, "entry " + entry, () -> x.ofEntry(entry, 0));
        }
        for (int what : outside(0, 2)) {
            CHECKS.dueArgument(x, "what " + what, () -> x.ofEntry(1, what));
        }
        x.write(127, 0);
        x.ray(127, 1);
        for (int i = 0; i < 45; i++) {
            x.read(127);
        }
        CHECKS.due("the last of a full log", x.ofEntry(39, 1), 0);
        CHECKS.dueIndex(x, "behind it", () -> x.ofEntry(40, 0));
    }

    private static void blame() {
        says(22, "`isWhat`: whether what is blamed (NONE), otherwise BLAME");
        says(22, RETURNS_THAT);
        says(22, NO_BANK);
        Scrubward x = new Scrubward();
        for (int bank = 0; bank < 2; bank++) {
            CHECKS.due("nothing", x.blame(bank, true), -1);
            CHECKS.due("nothing", x.blame(bank, false), 0);
        }
        x.ray(0, 1);
        x.read(0);
        x.read(0);
        CHECKS.due("what: the address 0", x.blame(0, true), 0);
        CHECKS.due("a cell", x.blame(0, false), 4);
        for (int bank : outside(0, 1)) {
            CHECKS.dueIndex(x, "bank " + bank, () -> x.blame(bank, true));
            CHECKS.dueIndex(x, "bank " + bank, () -> x.blame(bank, false));
        }
    }

    private static void board() {
        says(23, "`what`: 0 TICK, 1 K, 2 R, 3 PERIOD, 4 LIMIT, 5 STEPS, 6 1 if DEMAND is on, otherwise 0, 7 1 if "
                + "MIRRORED, otherwise 0, 8 where the PATROL stands, 9 ENTRIES of the LOG, 10 MENDED ones ever logged, "
                + "11 BAD ones ever logged (10, 11 also behind the 40), 12 POISONED WORDS, 13 RETIRED ones, 14 STUCK "
                + "cells, 15 WEAK cells, 16 DRAWN numbers ever, 17 how many were REFUSED");
        says(23, RETURNS_THAT);
        says(23, "Throws `IllegalArgumentException` if what is not 0 to 17");
        Scrubward x = new Scrubward();
        dueBoard(x, 0, 8, 5, 16, 20, 0, 0, 0, 0, 0, 0, 0, 0, 0, 0, 0, 0, 0);
        x.code(10, 6);
        x.run(100, 2, 8, true, true);
        x.pass(100);
        x.ray(0, 3);
        x.retire(64, true);
        x.read(0);
        x.stick(1, 0, true);
        for (int i = 0; i < 40; i++) {
            x.read(1);
        }
        x.ray(2, 3);
        x.read(2);
        x.weak(127, 15, 60);
        x.hammer(1, 3, 2);
        x.call();
        // Row 0 was opened 42 times, so its one neighbour was hammered 21 times, and both of row 3
        // once; the word 2 was told from the other bank, so it is bad, but not poisoned.
        dueBoard(x, 100, 10, 6, 100, 2, 8, 1, 1, 32, 40, 40, 2, 1, 1, 1, 1, 46, 1);
        for (int what : outside(0, 17)) {
            CHECKS.dueArgument(x, "what " + what, () -> x.board(what));
        }
    }

    private static void dueBoard(Scrubward x, int... due) {
        for (int what = 0; what < due.length; what++) {
            CHECKS.due("board(" + what + ")", x.board(what), due[what]);
        }
    }

    private static void health() {
        says(24, "Returns of its 64 WORDS the part that is CLEAN and not POISONED, as a double.");
        says(24, NO_BANK);
        Scrubward x = new Scrubward();
        CHECKS.dueTrue("all", x.health(0) == 1.0);
        for (int i = 1; i <= 64; i++) {
            x.ray(63 + i, 1);
            CHECKS.dueTrue("all but " + i, x.health(1) == (64 - i) / 64.0);
        }
        CHECKS.dueTrue("none", x.health(1) == 0.0);
        CHECKS.dueTrue("the other bank", x.health(0) == 1.0);
        x.ray(63, 3);
        x.read(63);
        x.ray(63, 3);
        CHECKS.dueTrue("clean, but poisoned", x.health(0) == 63.0 / 64);
        x.retire(0, true);
        CHECKS.dueTrue("retired ones are clean all the same", x.health(0) == 63.0 / 64);
        for (int bank : outside(0, 1)) {
            CHECKS.dueIndex(x, "bank " + bank, () -> x.health(bank));
        }
    }

    private static void tell() {
        says(25, "Returns a line of it: its 8 WORDS, each as \".\" CLEAN, \"m\" MENDED, \"B\" BAD, \"p\" POISONED "
                + "(whatever it tells), \"x\" RETIRED (POISONED or not).");
        says(25, NO_ROW);
        Scrubward x = new Scrubward();
        CHECKS.dueText("a new row", x.tell(0, 0), "........");
        int[] bits = {1, 3, 3, 3, 3, 3, 1, 0};
        for (int place = 0; place < 7; place++) {
            x.ray(120 + place, bits[place]);
        }
        for (int place = 2; place < 6; place++) {
            x.read(120 + place);
        }
        x.ray(122, 3);
        x.ray(123, 1);
        x.retire(125, true);
        x.retire(126, true);
        CHECKS.dueText("the last row", x.tell(1, 7), "mBpppxx.");
        for (int bank : outside(0, 1)) {
            CHECKS.dueIndex(x, "bank " + bank, () -> x.tell(bank, 0));
        }
        for (int row : outside(0, 7)) {
            CHECKS.dueIndex(x, "row " + row, () -> x.tell(1, row));
        }
    }

    // ---- what would be

    private static void wouldBe() {
        wouldRead();
        wouldSpare();
        wouldSpareNone();
        wouldLeak();
        wouldLeakOnce();
        isSound();
        digest();
        digestWrapsAround();
    }

    private static void wouldRead() {
        says(26, "Returns what read() would tell now; -2, if it is RETIRED.");
        says(26, NO_ADDRESS);
        Scrubward x = new Scrubward();
        x.write(127, 255);
        CHECKS.due("the least", x.wouldRead(0), 0);
        CHECKS.due("the most", x.wouldRead(127), 255);
        x.retire(127, true);
        CHECKS.due("a retired one", x.wouldRead(127), -2);
        x.ray(63, 3);
        CHECKS.due("a bad one", x.wouldRead(63), -1);
        x.run(16, 20, 0, true, true);
        CHECKS.due("the other one is retired", x.wouldRead(63), -1);
        x.retire(127, false);
        CHECKS.due("from the other bank", x.wouldRead(63), 255);
        x.retire(63, true);
        CHECKS.due("a retired one that is bad", x.wouldRead(63), -2);
        CHECKS.due("nothing is logged", x.board(9), 0);
        CHECKS.due("nothing is opened", x.ofLine(0, 7, 0), 0);
        for (int address : outside(0, 127)) {
            CHECKS.dueIndex(x, "address " + address, () -> x.wouldRead(address));
        }
    }

    private static void wouldSpare() {
        says(27, "Returns which ROW of it should be SPARED next: the one with the most WORDS that are not CLEAN; of "
                + "several the one with more STUCK cells in its LINE, then the smallest number;");
        says(27, NO_BANK);
        Scrubward x = new Scrubward();
        x.ray(64 + 56, 1);
        CHECKS.due("the last row", x.wouldSpare(1), 7);
        x.ray(64 + 8, 3);
        CHECKS.due("the smallest number", x.wouldSpare(1), 1);
        x.stick(64 + 57, 0, false);
        CHECKS.due("more stuck cells", x.wouldSpare(1), 7);
        x.stick(64 + 9, 0, false);
        CHECKS.due("as many stuck cells: the smallest number", x.wouldSpare(1), 1);
        x.ray(64 + 16, 1);
        x.ray(64 + 17, 1);
        CHECKS.due("the most that are not clean", x.wouldSpare(1), 2);
        x.ray(64 + 18, 3);
        x.read(64 + 18);
        x.ray(64 + 18, 3);
        x.ray(64 + 17, 1);
        x.ray(64 + 16, 1);
        CHECKS.due("one that is clean, but poisoned, does not count", x.wouldSpare(1), 1);
        for (int bank : outside(0, 1)) {
            CHECKS.dueIndex(x, "bank " + bank, () -> x.wouldSpare(bank));
        }
    }

    private static void wouldSpareNone() {
        says(27, "NONE, if all WORDS are CLEAN, or both SPARES are used.");
        Scrubward x = new Scrubward();
        CHECKS.due("all are clean", x.wouldSpare(0), -1);
        x.stick(0, 0, false);
        CHECKS.due("stuck, but clean", x.wouldSpare(0), -1);
        x.ray(1, 1);
        CHECKS.due("one is not", x.wouldSpare(0), 0);
        x.spare(0, 0);
        CHECKS.due("mended on the spare", x.wouldSpare(0), -1);
        x.ray(1, 1);
        CHECKS.due("one spare is left", x.wouldSpare(0), 0);
        x.spare(0, 7);
        CHECKS.due("both are used", x.wouldSpare(0), -1);
        x.ray(64, 1);
        CHECKS.due("not those of the other bank", x.wouldSpare(1), 0);
    }

    private static void wouldLeak() {
        says(28, "Returns how many bits would leak in these, if only they went by, without the PATROL");
        says(28, "Throws `IllegalArgumentException` if ticks is not 1 to 100");
        Scrubward x = new Scrubward();
        CHECKS.due("no weak ones", x.wouldLeak(100), 0);
        x.run(100, 20, 8, true, true);
        x.ray(0, 1 + 2 + 4);
        x.weak(0, 0, 1);
        x.weak(0, 1, 60);
        x.weak(0, 12, 1);
        CHECKS.due("in 1", x.wouldLeak(1), 1);
        CHECKS.due("in 59", x.wouldLeak(59), 1);
        CHECKS.due("in 60, though the patrol would come", x.wouldLeak(60), 2);
        CHECKS.due("nothing is changed", x.ofWord(0, 0), 7);
        CHECKS.due("no tick goes by", x.board(0), 0);
        for (int ticks : outside(1, 100)) {
            CHECKS.dueArgument(x, "ticks " + ticks, () -> x.wouldLeak(ticks));
        }
        Scrubward y = new Scrubward();
        y.pass(20);
        y.ray(127, 1);
        y.weak(127, 0, 5);
        y.run(10, 20, 0, false, false);
        CHECKS.due("refreshed at 16, not at 20, which is a multiple since then", y.wouldLeak(1), 1);
        y.run(7, 20, 0, false, false);
        CHECKS.due("leaks at 21, ahead of the refresh at 21", y.wouldLeak(1), 1);
        y.read(127);
        CHECKS.due("opened at 20, refreshed at 21, over at 26", y.wouldLeak(5), 0);
        CHECKS.due("over at 26", y.wouldLeak(6), 1);
    }

    private static void wouldLeakOnce() {
        says(28, "(WEAK bits that are 1 now and not STUCK, each bit once, also beyond TICK 2000).");
        Scrubward x = new Scrubward();
        x.run(100, 20, 0, false, false);
        for (int i = 0; i < 20; i++) {
            x.pass(100);
        }
        x.ray(127, 1 + 2);
        x.weak(127, 0, 60);
        x.weak(127, 0, 50);
        x.weak(127, 2, 1);
        CHECKS.due("at TICK 2000: in 49", x.wouldLeak(49), 0);
        CHECKS.due("at TICK 2000: in 50", x.wouldLeak(50), 1);
        CHECKS.due("each bit once: in 60", x.wouldLeak(60), 1);
        x.stick(127, 1, true);
        x.weak(127, 1, 1);
        CHECKS.due("stuck at 1", x.wouldLeak(100), 1);
        x.stick(127, 0, true);
        CHECKS.due("both are stuck", x.wouldLeak(100), 0);
    }

    private static void isSound() {
        says(29, "Returns whether all of this is so: all COLUMNS are different and odd in WEIGHT; each STUCK bit is as "
                + "it is STUCK (the last told one of a bit); no two ROWS of a BANK have one LINE; the LOG has 40 "
                + "ENTRIES at most, and no more than were ever logged; COUNTS are 0 or more.");
        CHECKS.dueTrue("a new object", new Scrubward().isSound());
        Scrubward x = Refused.busy();
        CHECKS.dueTrue("a full object", x.isSound());
        for (int[] code : new int[][] {{4, 4}, {4, 5}, {10, 5}, {4, 6}, {10, 6}}) {
            x.code(code[0], code[1]);
            CHECKS.dueTrue("another code", x.isSound());
            Scrubward z = new Scrubward();
            z.code(code[0], code[1]);
            for (int bit = 1; bit < code[0] + code[1]; bit++) {
                for (int other = 0; other < bit; other++) {
                    CHECKS.dueTrue("different columns", z.column(bit) != z.column(other));
                }
            }
        }
        Scrubward y = new Scrubward();
        y.stick(0, 0, true);
        y.stick(0, 0, false);
        y.stick(127, 12, false);
        y.stick(127, 12, true);
        y.write(0, 255);
        y.ray(127, 8191);
        CHECKS.dueTrue("the last told one of a bit", y.isSound());
        CHECKS.due("at 0", y.ofWord(0, 0) & 1, 0);
        CHECKS.due("at 1", y.ofWord(127, 0) & 4096, 4096);
        y.ray(1, 1);
        for (int i = 0; i < 41; i++) {
            y.read(1);
        }
        CHECKS.dueTrue("a full log", y.isSound());
        y.clear();
        CHECKS.dueTrue("an empty log", y.isSound());
    }

    private static void digest() {
        says(30, "Computes a checksum. A number d starts with 58281; then d becomes d * 31 + v, which wraps around as "
                + "a 64-bit integer, for each v in this order: board() of 0 to 17; bit by bit column(); fooled() of 2 "
                + "and 3; BANK by BANK blame() (BLAME, then what is blamed), wouldSpare(), 64 times health() (that "
                + "product cut to a whole number), LINE by LINE ofLine() of 0 to 4; ADDRESS by ADDRESS ofWord() of 0 "
                + "and 2, wouldRead(); ENTRY by ENTRY ofEntry() of 0 to 2; wouldLeak() of 20; isSound() (1 or 0).");
        says(30, "Returns d.");
        // Of a later v more is left of its factor, so the last ones show as they are.
        Scrubward x = new Scrubward();
        long before = x.digest();
        CHECKS.due("nothing is changed by it", x.digest(), before);
        x.run(100, 20, 0, false, false);
        long quiet = x.digest();
        x.ray(0, 1);
        long turned = x.digest();
        x.weak(0, 0, 21);
        CHECKS.due("a weak cell shows on the board alone", x.digest() - turned, factor(x, 17 - 15));
        x.weak(0, 0, 20);
        CHECKS.due("that leaks within 20: 1 more of wouldLeak()", x.digest() - turned, 2 * factor(x, 17 - 15) + 31);
        x.call();
        CHECKS.due("REFUSED", x.digest() - turned, 2 * factor(x, 17 - 15) + 31 + factor(x, 0));
        CHECKS.dueTrue("a word shows", quiet != turned);
    }

    /** By what a number of the board is multiplied in the end, if so many of the board follow it. */
    private static long factor(Scrubward x, int ofBoard) {
        int behind = ofBoard + x.board(1) + x.board(2) + 2 + 2 * (4 + 50) + 128 * 3 + 3 * x.board(9) + 2;
        long factor = 1;
        for (int i = 0; i < behind; i++) {
            factor *= 31;
        }
        return factor;
    }

    private static void digestWrapsAround() {
        int[] board = {0, 8, 5, 16, 20};
        java.math.BigInteger d = java.math.BigInteger.valueOf(58281);
        for (int v : board) {
            d = d.multiply(java.math.BigInteger.valueOf(31)).add(java.math.BigInteger.valueOf(v));
        }
        Scrubward x = new Scrubward();
        d = afterZeros(d, 13);
        for (int bit = 0; bit < 13; bit++) {
            d = next(d, x.column(bit));
        }
        d = next(next(d, 0), 220);
        for (int bank = 0; bank < 2; bank++) {
            d = next(next(next(next(d, 0), -1), -1), 64);
            for (int line = 0; line < 10; line++) {
                d = afterZeros(next(next(d, 0), line < 8 ? line : -1), 3);
            }
        }
        d = next(afterZeros(d, 128 * 3 + 1), 1);
        CHECKS.due("a new object, of numbers that do not wrap around", x.digest(), d.longValue());
    }

    private static java.math.BigInteger next(java.math.BigInteger d, int v) {
        return d.multiply(java.math.BigInteger.valueOf(31)).add(java.math.BigInteger.valueOf(v));
    }

    private static java.math.BigInteger afterZeros(java.math.BigInteger d, int many) {
        return d.multiply(java.math.BigInteger.valueOf(31).pow(many));
    }
}
