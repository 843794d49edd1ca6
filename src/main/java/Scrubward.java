/** Memory that mends itself; DOC.md tells what each call does, by numbered promises. */
public final class Scrubward {
    private static final int NONE = -1;
    private static final int BAD_TURN = -1;
    private static final int RETIRED_TOLD = -2;

    private static final int CLEAN = 0;
    private static final int MENDED = 1;
    private static final int BAD = 2;

    private static final int BANKS = 2;
    private static final int ROWS = 8;
    private static final int PLACES = 8;
    private static final int LINES = 10;
    private static final int SPARES = LINES - ROWS;
    private static final int BANK_WORDS = ROWS * PLACES;
    private static final int ADDRESSES = BANKS * BANK_WORDS;
    private static final int ALL_ROWS = BANKS * ROWS;
    private static final int ALL_LINES = BANKS * LINES;
    private static final int CELLS = ALL_LINES * PLACES;

    private static final int LEAST_DATA_BITS = 4;
    private static final int MOST_DATA_BITS = 10;
    private static final int LEAST_CHECK_BITS = 4;
    private static final int MOST_CHECK_BITS = 6;
    private static final int MOST_BITS = MOST_DATA_BITS + MOST_CHECK_BITS;
    private static final int LEAST_COLUMN_WEIGHT = 3;

    private static final int MOST_FAULTS = 24;
    private static final int MOST_SPAN = 60;
    private static final int MOST_HAMMERED = 100;
    private static final int MOST_PERIOD = 100;
    private static final int LEAST_LIMIT = 2;
    private static final int MOST_LIMIT = 100;
    private static final int MOST_STEPS = 8;
    private static final int MOST_TICKS = 100;
    private static final int LAST_TICK = 2000;

    private static final int FIRST_DRAWN = 5;
    private static final int DRAWN_FACTOR = 17;
    private static final int DRAWN_STEP = 43;
    private static final int DRAWN_BOUND = 251;

    private static final int MOST_ENTRIES = 40;
    private static final int BLAMED_AT = 3;
    private static final int NO_BLAME = 0;
    private static final int CHIP = 1;
    private static final int ROW = 2;
    private static final int COLUMN = 3;
    private static final int CELL = 4;

    private static final int BOARD_ROWS = 18;
    private static final int LINE_ROWS = 5;
    private static final int ENTRY_ROWS = 3;
    private static final long DIGEST_START = 58281L;
    private static final long DIGEST_FACTOR = 31L;
    private static final int DIGEST_TICKS = 20;

    private final Code coder;
    private final Memory memory;
    private final Log log;
    private final Ints lineOfRow;
    private final Ints sparesUsed;
    private final Ints poisoned;
    private final Ints retired;
    private int steps;
    private boolean demandOn;
    private boolean mirrorOn;
    private int patrolAt;
    private int refused;

    public Scrubward() {
        coder = new Code();
        memory = new Memory();
        log = new Log();
        lineOfRow = new Ints(ALL_ROWS);
        sparesUsed = new Ints(BANKS);
        poisoned = new Ints(ADDRESSES);
        retired = new Ints(ADDRESSES);
        for (int row = 0; row < ALL_ROWS; row++) {
            lineOfRow.set(row, row % ROWS);
        }
        coder.make(8, 5);
        memory.wipe(coder.width);
    }

    // ---- what is told and done

    public int code(int k, int r) throws IllegalArgumentException {
        if (k < LEAST_DATA_BITS || k > MOST_DATA_BITS) {
            throw new IllegalArgumentException("K is not 4 to 10");
        }
        if (r < LEAST_CHECK_BITS || r > MOST_CHECK_BITS) {
            throw new IllegalArgumentException("R is not 4 to 6");
        }
        if (Code.dataColumnsOf(r) < k) {
            throw new IllegalArgumentException("there are not K columns of data bits");
        }
        coder.make(k, r);
        memory.wipe(coder.width);
        poisoned.fill(0);
        log.empty();
        return coder.width;
    }

    public int write(int address, int data)
            throws IndexOutOfBoundsException, IllegalArgumentException, IllegalStateException {
        checkAddress(address);
        checkData(data);
        checkNotRetired(address);
        store(address, data);
        int twin = twinOf(address);
        if (mirrorOn && !isRetired(twin)) {
            store(twin, data);
        }
        return wordAt(address);
    }

    public int read(int address) throws IndexOutOfBoundsException, IllegalStateException {
        checkAddress(address);
        checkNotRetired(address);
        memory.open(lineAt(address));
        int data = dataAt(address);
        if (!isPoisoned(address)) {
            report(address, demandOn);
        }
        return data == NONE ? readTwin(address) : data;
    }

    public int ray(int address, int bits) throws IndexOutOfBoundsException, IllegalArgumentException {
        checkAddress(address);
        if (bits < 1 || bits >= coder.words()) {
            throw new IllegalArgumentException("bits is not a set of bits of a word");
        }
        memory.put(cellAt(address), wordAt(address) ^ bits);
        return wordAt(address);
    }

    public int stick(int address, int bit, boolean isOne)
            throws IndexOutOfBoundsException, IllegalArgumentException, IllegalStateException {
        checkAddress(address);
        if (!coder.hasBit(bit)) {
            throw new IllegalArgumentException("there is no such bit");
        }
        if (memory.stuck.isFull()) {
            throw new IllegalStateException("there are 24 stuck cells");
        }
        memory.stuck.add(cellAt(address), 1 << bit, isOne ? 1 : 0);
        // The bit is so from when it is told: putting the word anew applies what is stuck.
        memory.put(cellAt(address), wordAt(address));
        return memory.stuck.count;
    }

    public int weak(int address, int bit, int span)
            throws IndexOutOfBoundsException, IllegalArgumentException, IllegalStateException {
        checkAddress(address);
        if (!coder.hasBit(bit)) {
            throw new IllegalArgumentException("there is no such bit");
        }
        if (span < 1 || span > MOST_SPAN) {
            throw new IllegalArgumentException("span is not 1 to 60");
        }
        if (memory.weak.isFull()) {
            throw new IllegalStateException("there are 24 weak cells");
        }
        memory.weak.add(cellAt(address), 1 << bit, span);
        return memory.weak.count;
    }

    public int hammer(int bank, int row, int times) throws IndexOutOfBoundsException, IllegalArgumentException {
        checkRow(bank, row);
        if (times < 1 || times > MOST_HAMMERED) {
            throw new IllegalArgumentException("times is not 1 to 100");
        }
        int line = lineAt(firstAddress(bank, row));
        for (int i = 0; i < times; i++) {
            memory.open(line);
        }
        return memory.counts.get(line);
    }

    public int run(int period, int limit, int steps, boolean isDemand, boolean isMirrored)
            throws IllegalArgumentException {
        if (period < 1 || period > MOST_PERIOD) {
            throw new IllegalArgumentException("period is not 1 to 100");
        }
        if (limit < LEAST_LIMIT || limit > MOST_LIMIT) {
            throw new IllegalArgumentException("limit is not 2 to 100");
        }
        if (steps < 0 || steps > MOST_STEPS) {
            throw new IllegalArgumentException("steps is not 0 to 8");
        }
        int before = this.steps;
        memory.period = period;
        memory.limit = limit;
        this.steps = steps;
        demandOn = isDemand;
        mirrorOn = isMirrored;
        return before;
    }

    public int spare(int bank, int row) throws IndexOutOfBoundsException, IllegalStateException {
        checkRow(bank, row);
        int used = sparesUsed.get(bank);
        if (used >= SPARES) {
            throw new IllegalStateException("both spares of the bank are used");
        }
        moveRow(bank, row, ROWS + used);
        sparesUsed.set(bank, used + 1);
        return used + 1;
    }

    public int retire(int address, boolean isRetired) throws IndexOutOfBoundsException {
        checkAddress(address);
        retired.set(address, isRetired ? 1 : 0);
        return retired.sum();
    }

    public int pass(int ticks) throws IllegalArgumentException, IllegalStateException {
        checkTicks(ticks);
        if (memory.tick + ticks > LAST_TICK) {
            throw new IllegalStateException("the tick would be above 2000");
        }
        for (int i = 0; i < ticks; i++) {
            memory.beginTick();
            scrubSteps();
        }
        return memory.tick;
    }

    public int clear() {
        int before = log.count;
        log.empty();
        return before;
    }

    public int call() {
        refused++;
        return refused;
    }

    // ---- what is asked

    public int column(int bit) throws IndexOutOfBoundsException {
        if (!coder.hasBit(bit)) {
            throw new IndexOutOfBoundsException("there is no such bit");
        }
        return coder.columns.get(bit);
    }

    public int encode(int data) throws IllegalArgumentException {
        checkData(data);
        return coder.wordOf(data);
    }

    public int decode(int word, int what) throws IllegalArgumentException {
        if (word < 0 || word >= coder.words()) {
            throw new IllegalArgumentException("there is no such word");
        }
        switch (what) {
            case 0:
                return coder.syndromeOf(word);
            case 1:
                return coder.verdictOf(word);
            case 2:
                return Code.bitOf(coder.turnOf(word));
            case 3:
                return coder.dataOf(word);
            default:
                throw new IllegalArgumentException("what is not 0 to 3");
        }
    }

    public int fooled(int many) throws IllegalArgumentException {
        if (many != 2 && many != 3) {
            throw new IllegalArgumentException("many is not 2 or 3");
        }
        return coder.wronglyMended(many);
    }

    public int ofWord(int address, int what) throws IndexOutOfBoundsException, IllegalArgumentException {
        checkAddress(address);
        int cell = cellAt(address);
        switch (what) {
            case 0:
                return wordAt(address);
            case 1:
                return coder.verdictOf(wordAt(address));
            case 2:
                return poisoned.get(address);
            case 3:
                return retired.get(address);
            case 4:
                return lineOfRow.get(address / PLACES);
            case 5:
                return memory.stuck.countIn(cell, cell + 1);
            case 6:
                return memory.weak.countIn(cell, cell + 1);
            default:
                throw new IllegalArgumentException("what is not 0 to 6");
        }
    }

    public int ofLine(int bank, int line, int what) throws IndexOutOfBoundsException, IllegalArgumentException {
        checkBank(bank);
        if (line < 0 || line >= LINES) {
            throw new IndexOutOfBoundsException("there is no such line");
        }
        int all = bank * LINES + line;
        switch (what) {
            case 0:
                return memory.counts.get(all);
            case 1:
                return rowOn(bank, line);
            case 2:
                return memory.tick - memory.freshAt.get(all);
            case 3:
                return stuckIn(all);
            case 4:
                return uncleanIn(all);
            default:
                throw new IllegalArgumentException("what is not 0 to 4");
        }
    }

    public int ofEntry(int entry, int what) throws IndexOutOfBoundsException, IllegalArgumentException {
        if (entry < 0 || entry >= log.count) {
            throw new IndexOutOfBoundsException("there is no such entry");
        }
        switch (what) {
            case 0:
                return log.addresses.get(entry);
            case 1:
                return log.bits.get(entry);
            case 2:
                return log.ticks.get(entry);
            default:
                throw new IllegalArgumentException("what is not 0 to 2");
        }
    }

    public int blame(int bank, boolean isWhat) throws IndexOutOfBoundsException {
        checkBank(bank);
        for (int kind = CHIP; kind <= CELL; kind++) {
            int guilty = log.guiltyOf(bank, kind);
            if (guilty != NONE) {
                return isWhat ? guilty : kind;
            }
        }
        return isWhat ? NONE : NO_BLAME;
    }

    public int board(int what) throws IllegalArgumentException {
        switch (what) {
            case 0:
                return memory.tick;
            case 1:
                return coder.dataBits;
            case 2:
                return coder.checkBits;
            case 3:
                return memory.period;
            case 4:
                return memory.limit;
            case 5:
                return steps;
            case 6:
                return demandOn ? 1 : 0;
            case 7:
                return mirrorOn ? 1 : 0;
            case 8:
                return patrolAt;
            case 9:
                return log.count;
            case 10:
                return log.mendedEver;
            case 11:
                return log.badEver;
            case 12:
                return poisoned.sum();
            case 13:
                return retired.sum();
            case 14:
                return memory.stuck.count;
            case 15:
                return memory.weak.count;
            case 16:
                return memory.drawnEver;
            case 17:
                return refused;
            default:
                throw new IllegalArgumentException("what is not 0 to 17");
        }
    }

    public double health(int bank) throws IndexOutOfBoundsException {
        checkBank(bank);
        int well = 0;
        for (int i = 0; i < BANK_WORDS; i++) {
            int address = bank * BANK_WORDS + i;
            if (!isPoisoned(address) && coder.isClean(wordAt(address))) {
                well++;
            }
        }
        return (double) well / BANK_WORDS;
    }

    public String tell(int bank, int row) throws IndexOutOfBoundsException {
        checkRow(bank, row);
        StringBuilder text = new StringBuilder();
        for (int place = 0; place < PLACES; place++) {
            text.append(signOf(firstAddress(bank, row) + place));
        }
        return text.toString();
    }

    // ---- what would be (nothing is changed)

    public int wouldRead(int address) throws IndexOutOfBoundsException {
        checkAddress(address);
        if (isRetired(address)) {
            return RETIRED_TOLD;
        }
        // What opening hammers are other lines of the same bank, so it never changes what is told.
        int data = dataAt(address);
        int twin = twinOf(address);
        if (data == NONE && mirrorOn && !isRetired(twin)) {
            data = dataAt(twin);
        }
        return data;
    }

    public int wouldSpare(int bank) throws IndexOutOfBoundsException {
        checkBank(bank);
        if (sparesUsed.get(bank) >= SPARES) {
            return NONE;
        }
        int worst = NONE;
        int mostUnclean = 0;
        int mostStuck = 0;
        for (int row = 0; row < ROWS; row++) {
            int line = lineAt(firstAddress(bank, row));
            int unclean = uncleanIn(line);
            int stuck = stuckIn(line);
            if (unclean > mostUnclean || (unclean > 0 && unclean == mostUnclean && stuck > mostStuck)) {
                worst = row;
                mostUnclean = unclean;
                mostStuck = stuck;
            }
        }
        return worst;
    }

    public int wouldLeak(int ticks) throws IllegalArgumentException {
        checkTicks(ticks);
        return memory.leaksWithin(ticks);
    }

    public boolean isSound() {
        return coder.isInOrder() && memory.isInOrder() && log.isInOrder() && rowsHaveOwnLines();
    }

    public long digest() {
        long d = DIGEST_START;
        for (int what = 0; what < BOARD_ROWS; what++) {
            d = mix(d, board(what));
        }
        for (int bit = 0; bit < coder.width; bit++) {
            d = mix(d, column(bit));
        }
        d = mix(d, fooled(2));
        d = mix(d, fooled(3));
        for (int bank = 0; bank < BANKS; bank++) {
            d = mixBank(d, bank);
        }
        for (int address = 0; address < ADDRESSES; address++) {
            d = mix(d, ofWord(address, 0));
            d = mix(d, ofWord(address, 2));
            d = mix(d, wouldRead(address));
        }
        for (int entry = 0; entry < log.count; entry++) {
            for (int what = 0; what < ENTRY_ROWS; what++) {
                d = mix(d, ofEntry(entry, what));
            }
        }
        d = mix(d, wouldLeak(DIGEST_TICKS));
        return mix(d, isSound() ? 1 : 0);
    }

    // ---- tests of arguments, each of which throws what the document names

    private static void checkAddress(int address) {
        if (address < 0 || address >= ADDRESSES) {
            throw new IndexOutOfBoundsException("there is no such address");
        }
    }

    private static void checkBank(int bank) {
        if (bank < 0 || bank >= BANKS) {
            throw new IndexOutOfBoundsException("there is no such bank");
        }
    }

    private static void checkRow(int bank, int row) {
        checkBank(bank);
        if (row < 0 || row >= ROWS) {
            throw new IndexOutOfBoundsException("there is no such row");
        }
    }

    private static void checkTicks(int ticks) {
        if (ticks < 1 || ticks > MOST_TICKS) {
            throw new IllegalArgumentException("ticks is not 1 to 100");
        }
    }

    private void checkData(int data) {
        if (data < 0 || data > coder.dataMask()) {
            throw new IllegalArgumentException("data does not fit into the data bits");
        }
    }

    private void checkNotRetired(int address) {
        if (isRetired(address)) {
            throw new IllegalStateException("the word is retired");
        }
    }

    // ---- where words lie

    private static int firstAddress(int bank, int row) {
        return bank * BANK_WORDS + row * PLACES;
    }

    /** The same row and place of the other bank. */
    private static int twinOf(int address) {
        return address < BANK_WORDS ? address + BANK_WORDS : address - BANK_WORDS;
    }

    /** The line of an address, counted through both banks. */
    private int lineAt(int address) {
        return address / BANK_WORDS * LINES + lineOfRow.get(address / PLACES);
    }

    private int cellAt(int address) {
        return lineAt(address) * PLACES + address % PLACES;
    }

    private int wordAt(int address) {
        return memory.words.get(cellAt(address));
    }

    private int rowOn(int bank, int line) {
        for (int row = 0; row < ROWS; row++) {
            if (lineOfRow.get(bank * ROWS + row) == line) {
                return row;
            }
        }
        return NONE;
    }

    private boolean rowsHaveOwnLines() {
        for (int row = 0; row < ALL_ROWS; row++) {
            if (rowOn(row / ROWS, lineOfRow.get(row)) != row % ROWS) {
                return false;
            }
        }
        return true;
    }

    // ---- what is said of words and lines

    private boolean isPoisoned(int address) {
        return poisoned.get(address) != 0;
    }

    private boolean isRetired(int address) {
        return retired.get(address) != 0;
    }

    /** The data of a word that can be told from it alone; NONE, if it is poisoned or bad. */
    private int dataAt(int address) {
        return isPoisoned(address) ? NONE : coder.dataOf(wordAt(address));
    }

    private char signOf(int address) {
        if (isRetired(address)) {
            return 'x';
        }
        if (isPoisoned(address)) {
            return 'p';
        }
        switch (coder.verdictOf(wordAt(address))) {
            case CLEAN:
                return '.';
            case MENDED:
                return 'm';
            default:
                return 'B';
        }
    }

    private int stuckIn(int line) {
        return memory.stuck.countIn(line * PLACES, line * PLACES + PLACES);
    }

    private int uncleanIn(int line) {
        int unclean = 0;
        for (int place = 0; place < PLACES; place++) {
            if (!coder.isClean(memory.words.get(line * PLACES + place))) {
                unclean++;
            }
        }
        return unclean;
    }

    // ---- what is done to words

    private void store(int address, int data) {
        memory.open(lineAt(address));
        replace(address, data);
    }

    private void replace(int address, int data) {
        memory.put(cellAt(address), coder.wordOf(data));
        poisoned.set(address, 0);
    }

    /** Logs a word that is not clean, and writes it back mended where that is asked and can be. */
    private void report(int address, boolean isWrittenBack) {
        int word = wordAt(address);
        int turn = coder.turnOf(word);
        if (turn == 0) {
            return;
        }
        log.add(address, Code.bitOf(turn), memory.tick);
        if (isWrittenBack && turn != BAD_TURN) {
            memory.put(cellAt(address), word ^ turn);
        }
    }

    /** Reads a word that tells nothing itself from the other bank, if it is mirrored there. */
    private int readTwin(int address) {
        int data = NONE;
        int twin = twinOf(address);
        if (mirrorOn && !isRetired(twin)) {
            memory.open(lineAt(twin));
            data = dataAt(twin);
        }
        if (data == NONE) {
            poisoned.set(address, 1);
            return NONE;
        }
        report(twin, demandOn);
        replace(address, data);
        return data;
    }

    private void scrubSteps() {
        for (int i = 0; i < steps; i++) {
            int address = patrolAt;
            if (!isPoisoned(address) && !isRetired(address)) {
                boolean isBad = dataAt(address) == NONE;
                report(address, true);
                poisoned.set(address, isBad ? 1 : 0);
            }
            patrolAt = (address + 1) % ADDRESSES;
        }
    }

    private void moveRow(int bank, int row, int line) {
        int first = firstAddress(bank, row);
        int firstCell = (bank * LINES + line) * PLACES;
        for (int place = 0; place < PLACES; place++) {
            int word = wordAt(first + place);
            int turn = coder.turnOf(word);
            if (turn == BAD_TURN) {
                poisoned.set(first + place, 1);
                turn = 0;
            }
            memory.put(firstCell + place, word ^ turn);
        }
        lineOfRow.set(bank * ROWS + row, line);
    }

    // ---- the checksum

    private static long mix(long d, long v) {
        return d * DIGEST_FACTOR + v;
    }

    private long mixBank(long start, int bank) {
        long d = mix(start, blame(bank, false));
        d = mix(d, blame(bank, true));
        d = mix(d, wouldSpare(bank));
        d = mix(d, (long) (BANK_WORDS * health(bank)));
        for (int line = 0; line < LINES; line++) {
            for (int what = 0; what < LINE_ROWS; what++) {
                d = mix(d, ofLine(bank, line, what));
            }
        }
        return d;
    }

    /** A row of numbers; an index outside it reads 0 and writes nothing. */
    private static final class Ints {
        private final int[] items;

        Ints(int size) {
            items = new int[size < 0 ? 0 : size];
        }

        int get(int i) {
            return i >= 0 && i < items.length ? items[i] : 0;
        }

        void set(int i, int value) {
            if (i >= 0 && i < items.length) {
                items[i] = value;
            }
        }

        void fill(int value) {
            for (int i = 0; i < items.length; i++) {
                items[i] = value;
            }
        }

        int sum() {
            int sum = 0;
            for (int i = 0; i < items.length; i++) {
                sum += items[i];
            }
            return sum;
        }
    }

    /** Which bits a word has, their columns, and what a word tells by them. */
    private static final class Code {
        private final Ints columns = new Ints(MOST_BITS);
        /** By syndrome: the bit to turn as 2^k; 0 of a clean word; BAD_TURN, if none mends it. */
        private final Ints turns = new Ints(1 << MOST_CHECK_BITS);
        private int dataBits;
        private int checkBits;
        private int width;

        private static boolean isDataColumn(int number) {
            int weight = Integer.bitCount(number);
            return weight >= LEAST_COLUMN_WEIGHT && weight % 2 == 1;
        }

        static int dataColumnsOf(int r) {
            int many = 0;
            for (int number = 1; number < 1 << r; number++) {
                if (isDataColumn(number)) {
                    many++;
                }
            }
            return many;
        }

        void make(int k, int r) {
            dataBits = k;
            checkBits = r;
            width = k + r;
            makeDataColumns();
            for (int i = 0; i < r; i++) {
                columns.set(k + i, 1 << i);
            }
            turns.fill(BAD_TURN);
            turns.set(0, 0);
            for (int bit = 0; bit < width; bit++) {
                turns.set(columns.get(bit), 1 << bit);
            }
        }

        private void makeDataColumns() {
            int made = 0;
            for (int weight = LEAST_COLUMN_WEIGHT; weight <= checkBits; weight += 2) {
                for (int number = 1; number < 1 << checkBits && made < dataBits; number++) {
                    if (Integer.bitCount(number) == weight) {
                        columns.set(made, number);
                        made++;
                    }
                }
            }
        }

        int words() {
            return 1 << width;
        }

        int dataMask() {
            return (1 << dataBits) - 1;
        }

        boolean hasBit(int bit) {
            return bit >= 0 && bit < width;
        }

        int syndromeOf(int word) {
            int syndrome = 0;
            for (int bit = 0; bit < width; bit++) {
                if ((word >> bit & 1) == 1) {
                    syndrome ^= columns.get(bit);
                }
            }
            return syndrome;
        }

        int turnOf(int word) {
            return turns.get(syndromeOf(word));
        }

        boolean isClean(int word) {
            return syndromeOf(word) == 0;
        }

        int verdictOf(int word) {
            int turn = turnOf(word);
            if (turn == 0) {
                return CLEAN;
            }
            return turn == BAD_TURN ? BAD : MENDED;
        }

        static int bitOf(int turn) {
            return turn == 0 || turn == BAD_TURN ? NONE : Integer.bitCount(turn - 1);
        }

        int dataOf(int word) {
            int turn = turnOf(word);
            return turn == BAD_TURN ? NONE : (word ^ turn) & dataMask();
        }

        /** The check bits have the columns 2^i, so the syndrome of the data says which are 1. */
        int wordOf(int data) {
            return data | syndromeOf(data) << dataBits;
        }

        int wronglyMended(int many) {
            int sets = 0;
            for (int a = 0; a < width; a++) {
                for (int b = a + 1; b < width; b++) {
                    int pair = columns.get(a) ^ columns.get(b);
                    sets += many == 2 ? oneIfMended(pair) : thirdBits(pair, b + 1);
                }
            }
            return sets;
        }

        private int thirdBits(int pair, int from) {
            int sets = 0;
            for (int c = from; c < width; c++) {
                sets += oneIfMended(pair ^ columns.get(c));
            }
            return sets;
        }

        private int oneIfMended(int syndrome) {
            return turns.get(syndrome) > 0 ? 1 : 0;
        }

        boolean isInOrder() {
            for (int a = 0; a < width; a++) {
                if (Integer.bitCount(columns.get(a)) % 2 == 0) {
                    return false;
                }
                for (int b = a + 1; b < width; b++) {
                    if (columns.get(a) == columns.get(b)) {
                        return false;
                    }
                }
            }
            return true;
        }
    }

    /** Stuck cells (value: 0 or 1) or weak ones (value: span), in the order in which they were told. */
    private static final class Faults {
        private final Ints cells = new Ints(MOST_FAULTS);
        private final Ints masks = new Ints(MOST_FAULTS);
        private final Ints values = new Ints(MOST_FAULTS);
        private int count;

        boolean isFull() {
            return count >= MOST_FAULTS;
        }

        void add(int cell, int mask, int value) {
            if (isFull()) {
                return;
            }
            cells.set(count, cell);
            masks.set(count, mask);
            values.set(count, value);
            count++;
        }

        /** Drops the faults of bits that there are not any more. */
        void keepBitsBelow(int width) {
            int told = count;
            count = 0;
            for (int i = 0; i < told; i++) {
                if (masks.get(i) < 1 << width) {
                    add(cells.get(i), masks.get(i), values.get(i));
                }
            }
        }

        int countIn(int from, int to) {
            int many = 0;
            for (int i = 0; i < count; i++) {
                if (cells.get(i) >= from && cells.get(i) < to) {
                    many++;
                }
            }
            return many;
        }
    }

    /** The lines of both banks, with what they hold, what is wrong with them, and the ticks. */
    private static final class Memory {
        private final Ints words = new Ints(CELLS);
        private final Ints counts = new Ints(ALL_LINES);
        private final Ints freshAt = new Ints(ALL_LINES);
        /** Bits that wouldLeak has counted; kept here, so that asking makes no new row. */
        private final Ints leaked = new Ints(CELLS);
        private final Faults stuck = new Faults();
        private final Faults weak = new Faults();
        private int width;
        private int tick;
        private int period = 16;
        private int limit = 20;
        private int nextDrawn = FIRST_DRAWN;
        private int drawnEver;

        void wipe(int newWidth) {
            width = newWidth;
            stuck.keepBitsBelow(width);
            weak.keepBitsBelow(width);
            counts.fill(0);
            for (int cell = 0; cell < CELLS; cell++) {
                put(cell, 0);
            }
        }

        /** Every change of a word goes through here, so that stuck bits stay as they are stuck. */
        void put(int cell, int word) {
            words.set(cell, asStuck(cell, word));
        }

        private int asStuck(int cell, int word) {
            int shown = word;
            for (int i = 0; i < stuck.count; i++) {
                if (stuck.cells.get(i) == cell) {
                    int mask = stuck.masks.get(i);
                    shown = stuck.values.get(i) == 1 ? shown | mask : shown & ~mask;
                }
            }
            return shown;
        }

        void open(int line) {
            int count = counts.get(line) + 1;
            counts.set(line, count);
            freshAt.set(line, tick);
            if (limit > 0 && count % limit == 0) {
                int ofBank = line % LINES;
                if (ofBank > 0) {
                    turnDrawnBit(line - 1);
                }
                if (ofBank < LINES - 1) {
                    turnDrawnBit(line + 1);
                }
            }
        }

        private void turnDrawnBit(int line) {
            int cell = line * PLACES + draw() % PLACES;
            int drawn = draw();
            int bit = width > 0 ? drawn % width : 0;
            put(cell, words.get(cell) ^ 1 << bit);
        }

        private int draw() {
            int drawn = nextDrawn;
            nextDrawn = (DRAWN_FACTOR * drawn + DRAWN_STEP) % DRAWN_BOUND;
            drawnEver++;
            return drawn;
        }

        void beginTick() {
            tick++;
            for (int i = 0; i < weak.count; i++) {
                int cell = weak.cells.get(i);
                if (tick - freshAt.get(cell / PLACES) >= weak.values.get(i)) {
                    put(cell, words.get(cell) & ~weak.masks.get(i));
                }
            }
            if (isRefreshedAt(tick)) {
                counts.fill(0);
                freshAt.fill(tick);
            }
        }

        private boolean isRefreshedAt(int time) {
            return period > 0 && time % period == 0;
        }

        int leaksWithin(int ticks) {
            leaked.fill(0);
            int leaks = 0;
            for (int i = 0; i < weak.count; i++) {
                int cell = weak.cells.get(i);
                int mask = weak.masks.get(i);
                boolean isCounted = (leaked.get(cell) & mask) != 0;
                if (!isCounted && isLeakable(cell, mask) && isOverWithin(i, ticks)) {
                    leaked.set(cell, leaked.get(cell) | mask);
                    leaks++;
                }
            }
            return leaks;
        }

        /** Whether a bit is 1 and would not be so, if it was turned: it is not stuck. */
        private boolean isLeakable(int cell, int mask) {
            int word = words.get(cell);
            return (word & mask) != 0 && (asStuck(cell, word & ~mask) & mask) == 0;
        }

        private boolean isOverWithin(int fault, int ticks) {
            int fresh = freshAt.get(weak.cells.get(fault) / PLACES);
            for (int time = tick + 1; time <= tick + ticks; time++) {
                if (time - fresh >= weak.values.get(fault)) {
                    return true;
                }
                if (isRefreshedAt(time)) {
                    fresh = time;
                }
            }
            return false;
        }

        boolean isInOrder() {
            for (int line = 0; line < ALL_LINES; line++) {
                if (counts.get(line) < 0) {
                    return false;
                }
            }
            for (int i = 0; i < stuck.count; i++) {
                int cell = stuck.cells.get(i);
                if (asStuck(cell, words.get(cell)) != words.get(cell)) {
                    return false;
                }
            }
            return true;
        }
    }

    /** What was mended and what was bad, and who is to blame for it. */
    private static final class Log {
        private final Ints addresses = new Ints(MOST_ENTRIES);
        private final Ints bits = new Ints(MOST_ENTRIES);
        private final Ints ticks = new Ints(MOST_ENTRIES);
        private int count;
        private int mendedEver;
        private int badEver;

        void empty() {
            count = 0;
        }

        void add(int address, int bit, int tick) {
            if (bit == NONE) {
                badEver++;
            } else {
                mendedEver++;
            }
            if (count < MOST_ENTRIES) {
                addresses.set(count, address);
                bits.set(count, bit);
                ticks.set(count, tick);
                count++;
            }
        }

        /** What is blamed of a kind, the smallest number; NONE, if the kind does not hold. */
        int guiltyOf(int bank, int kind) {
            if (kind == CELL) {
                return guiltyCell(bank);
            }
            int numbers = kind == CHIP ? MOST_BITS : ROWS;
            for (int number = 0; number < numbers; number++) {
                if (isGuilty(bank, kind, number)) {
                    return number;
                }
            }
            return NONE;
        }

        /** Three different rows or places need three entries, so these need no count of their own. */
        private boolean isGuilty(int bank, int kind, int number) {
            int seen = 0;
            for (int i = 0; i < count; i++) {
                int row = addresses.get(i) % BANK_WORDS / PLACES;
                int place = addresses.get(i) % PLACES;
                if (isMendedIn(bank, i) && suspectOf(kind, bits.get(i), row, place) == number) {
                    seen |= 1 << (kind == ROW ? place : row);
                }
            }
            return Integer.bitCount(seen) >= BLAMED_AT;
        }

        private static int suspectOf(int kind, int bit, int row, int place) {
            if (kind == COLUMN) {
                return place;
            }
            return kind == ROW ? row : bit;
        }

        private int guiltyCell(int bank) {
            int guilty = NONE;
            for (int i = 0; i < count; i++) {
                int address = addresses.get(i);
                boolean isSmaller = guilty == NONE || address < guilty;
                if (isSmaller && isMendedIn(bank, i) && isToldAgain(i)) {
                    guilty = address;
                }
            }
            return guilty;
        }

        private boolean isToldAgain(int entry) {
            for (int i = entry + 1; i < count; i++) {
                if (addresses.get(i) == addresses.get(entry) && bits.get(i) == bits.get(entry)) {
                    return true;
                }
            }
            return false;
        }

        private boolean isMendedIn(int bank, int entry) {
            return bits.get(entry) != NONE && addresses.get(entry) / BANK_WORDS == bank;
        }

        boolean isInOrder() {
            return count <= MOST_ENTRIES && count <= mendedEver + badEver;
        }
    }
}
