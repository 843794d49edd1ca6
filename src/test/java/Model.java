import java.util.ArrayList;
import java.util.HashMap;
import java.util.List;
import java.util.Map;

/**
 * The document written a second time, by search and by trying things on a copy where Scrubward
 * computes: an error of thought in one of the two shows as a difference.
 */
final class Model {
    static final class Fault {
        final int bank;
        final int line;
        final int place;
        final int bit;
        final int value;

        Fault(int bank, int line, int place, int bit, int value) {
            this.bank = bank;
            this.line = line;
            this.place = place;
            this.bit = bit;
            this.value = value;
        }
    }

    int k = 8;
    int r = 5;
    int[] columns;
    Map<Integer, Integer> bitByColumn;
    boolean[][][][] cells = new boolean[2][10][8][16];
    int[][] counts = new int[2][10];
    int[][] fresh = new int[2][10];
    int[][] lineOf = new int[2][8];
    int[] used = new int[2];
    boolean[] poison = new boolean[128];
    boolean[] retired = new boolean[128];
    List<Fault> stuck = new ArrayList<>();
    List<Fault> weak = new ArrayList<>();
    List<int[]> log = new ArrayList<>();
    int mendedEver;
    int badEver;
    int tick;
    int period = 16;
    int limit = 20;
    int steps;
    boolean demand;
    boolean mirrored;
    int patrol;
    int drawnEver;
    int refused;

    Model() {
        for (int row = 0; row < 8; row++) {
            lineOf[0][row] = row;
            lineOf[1][row] = row;
        }
        makeColumns();
    }

    Model copy() {
        Model m = new Model();
        m.k = k;
        m.r = r;
        m.makeColumns();
        for (int bank = 0; bank < 2; bank++) {
            for (int line = 0; line < 10; line++) {
                for (int place = 0; place < 8; place++) {
                    m.cells[bank][line][place] = cells[bank][line][place].clone();
                }
            }
            m.counts[bank] = counts[bank].clone();
            m.fresh[bank] = fresh[bank].clone();
            m.lineOf[bank] = lineOf[bank].clone();
        }
        m.used = used.clone();
        m.poison = poison.clone();
        m.retired = retired.clone();
        m.stuck = new ArrayList<>(stuck);
        m.weak = new ArrayList<>(weak);
        m.log = new ArrayList<>(log);
        m.mendedEver = mendedEver;
        m.badEver = badEver;
        m.tick = tick;
        m.period = period;
        m.limit = limit;
        m.steps = steps;
        m.demand = demand;
        m.mirrored = mirrored;
        m.patrol = patrol;
        m.drawnEver = drawnEver;
        m.refused = refused;
        return m;
    }

    private List<Integer> candidates(int checkBits) {
        List<Integer> found = new ArrayList<>();
        for (int number = 1; number < 1 << checkBits; number++) {
            int weight = Integer.bitCount(number);
            if (weight == 3 || weight == 5) {
                found.add(number);
            }
        }
        found.sort((a, b) -> Integer.bitCount(a) != Integer.bitCount(b)
                ? Integer.bitCount(a) - Integer.bitCount(b) : a - b);
        return found;
    }

    private void makeColumns() {
        columns = new int[k + r];
        bitByColumn = new HashMap<>();
        for (int bit = 0; bit < k + r; bit++) {
            columns[bit] = bit < k ? candidates(r).get(bit) : 1 << (bit - k);
            bitByColumn.put(columns[bit], bit);
        }
    }

    // ---- words

    private int bankOf(int address) {
        return address / 64;
    }

    private int lineOf(int address) {
        return lineOf[address / 64][address / 8 % 8];
    }

    private boolean[] cellsOf(int address) {
        return cells[bankOf(address)][lineOf(address)][address % 8];
    }

    private int number(boolean[] bits) {
        int word = 0;
        for (int bit = 0; bit < 16; bit++) {
            word += bits[bit] ? 1 << bit : 0;
        }
        return word;
    }

    int word(int address) {
        return number(cellsOf(address));
    }

    private int syndrome(int word) {
        int syndrome = 0;
        for (int i = 0; i < r; i++) {
            int ones = 0;
            for (int bit = 0; bit < k + r; bit++) {
                ones += (columns[bit] >> i & 1) * (word >> bit & 1);
            }
            syndrome += ones % 2 << i;
        }
        return syndrome;
    }

    private void setBit(int bank, int line, int place, int bit, boolean isOne) {
        boolean value = isOne;
        for (int i = stuck.size() - 1; i >= 0; i--) {
            Fault f = stuck.get(i);
            if (f.bank == bank && f.line == line && f.place == place && f.bit == bit) {
                value = f.value == 1;
                break;
            }
        }
        cells[bank][line][place][bit] = value;
    }

    private void setWord(int bank, int line, int place, int word) {
        for (int bit = 0; bit < k + r; bit++) {
            setBit(bank, line, place, bit, (word >> bit & 1) == 1);
        }
    }

    private void setWord(int address, int word) {
        setWord(bankOf(address), lineOf(address), address % 8, word);
    }

    int encode(int data) {
        for (int check = 0; check < 1 << r; check++) {
            if (syndrome(data + (check << k)) == 0) {
                return data + (check << k);
            }
        }
        throw new AssertionError("no word");
    }

    int decode(int word, int what) {
        int syndrome = syndrome(word);
        Integer bit = bitByColumn.get(syndrome);
        switch (what) {
            case 0:
                return syndrome;
            case 1:
                return syndrome == 0 ? 0 : bit != null ? 1 : 2;
            case 2:
                return bit == null ? -1 : bit;
            default:
                int mended = bit == null ? word : word ^ 1 << bit;
                return syndrome != 0 && bit == null ? -1 : mended % (1 << k);
        }
    }

    int fooled(int many) {
        int found = 0;
        for (int a = 0; a < k + r; a++) {
            for (int b = a + 1; b < k + r; b++) {
                if (many == 2) {
                    found += decode(1 << a | 1 << b, 1) == 1 ? 1 : 0;
                    continue;
                }
                for (int c = b + 1; c < k + r; c++) {
                    found += decode(1 << a | 1 << b | 1 << c, 1) == 1 ? 1 : 0;
                }
            }
        }
        return found;
    }

    // ---- what is done

    private static void index(boolean isFine) {
        if (!isFine) {
            throw new IndexOutOfBoundsException();
        }
    }

    private static void argument(boolean isFine) {
        if (!isFine) {
            throw new IllegalArgumentException();
        }
    }

    private static void state(boolean isFine) {
        if (!isFine) {
            throw new IllegalStateException();
        }
    }

    private static boolean in(int number, int from, int to) {
        return number >= from && number <= to;
    }

    int code(int newK, int newR) {
        argument(in(newK, 4, 10) && in(newR, 4, 6) && candidates(newR).size() >= newK);
        k = newK;
        r = newR;
        makeColumns();
        stuck.removeIf(f -> f.bit >= k + r);
        weak.removeIf(f -> f.bit >= k + r);
        cells = new boolean[2][10][8][16];
        for (int bank = 0; bank < 2; bank++) {
            for (int line = 0; line < 10; line++) {
                for (int place = 0; place < 8; place++) {
                    setWord(bank, line, place, 0);
                }
            }
        }
        poison = new boolean[128];
        log.clear();
        counts = new int[2][10];
        return k + r;
    }

    private int draw() {
        int number = 5;
        for (int i = 0; i < drawnEver; i++) {
            number = (17 * number + 43) % 251;
        }
        drawnEver++;
        return number;
    }

    private void open(int bank, int line) {
        counts[bank][line]++;
        fresh[bank][line] = tick;
        if (counts[bank][line] % limit != 0) {
            return;
        }
        for (int next = line - 1; next <= line + 1; next += 2) {
            if (in(next, 0, 9)) {
                int place = draw() % 8;
                int bit = draw() % (k + r);
                setBit(bank, next, place, bit, !cells[bank][next][place][bit]);
            }
        }
    }

    private void open(int address) {
        open(bankOf(address), lineOf(address));
    }

    int write(int address, int data) {
        index(in(address, 0, 127));
        argument(in(data, 0, (1 << k) - 1));
        state(!retired[address]);
        open(address);
        setWord(address, encode(data));
        poison[address] = false;
        int other = (address + 64) % 128;
        if (mirrored && !retired[other]) {
            open(other);
            setWord(other, encode(data));
            poison[other] = false;
        }
        return word(address);
    }

    private void logged(int address, int bit) {
        if (bit < 0) {
            badEver++;
        } else {
            mendedEver++;
        }
        if (log.size() < 40) {
            log.add(new int[] {address, bit, tick});
        }
    }

    int read(int address) {
        index(in(address, 0, 127));
        state(!retired[address]);
        open(address);
        int told = decode(word(address), 1);
        if (!poison[address] && told < 2) {
            int data = decode(word(address), 3);
            if (told == 1) {
                logged(address, decode(word(address), 2));
                if (demand) {
                    setWord(address, encode(data));
                }
            }
            return data;
        }
        if (!poison[address]) {
            logged(address, -1);
        }
        int other = (address + 64) % 128;
        if (mirrored && !retired[other]) {
            open(other);
            int there = decode(word(other), 1);
            if (!poison[other] && there < 2) {
                int data = decode(word(other), 3);
                if (there == 1) {
                    logged(other, decode(word(other), 2));
                    if (demand) {
                        setWord(other, encode(data));
                    }
                }
                setWord(address, encode(data));
                poison[address] = false;
                return data;
            }
        }
        poison[address] = true;
        return -1;
    }

    int ray(int address, int bits) {
        index(in(address, 0, 127));
        argument(in(bits, 1, (1 << (k + r)) - 1));
        setWord(address, word(address) ^ bits);
        return word(address);
    }

    int stick(int address, int bit, boolean isOne) {
        index(in(address, 0, 127));
        argument(in(bit, 0, k + r - 1));
        state(stuck.size() < 24);
        stuck.add(new Fault(bankOf(address), lineOf(address), address % 8, bit, isOne ? 1 : 0));
        cellsOf(address)[bit] = isOne;
        return stuck.size();
    }

    int weak(int address, int bit, int span) {
        index(in(address, 0, 127));
        argument(in(bit, 0, k + r - 1) && in(span, 1, 60));
        state(weak.size() < 24);
        weak.add(new Fault(bankOf(address), lineOf(address), address % 8, bit, span));
        return weak.size();
    }

    int hammer(int bank, int row, int times) {
        index(in(bank, 0, 1) && in(row, 0, 7));
        argument(in(times, 1, 100));
        for (int i = 0; i < times; i++) {
            open(bank, lineOf[bank][row]);
        }
        return counts[bank][lineOf[bank][row]];
    }

    int run(int newPeriod, int newLimit, int newSteps, boolean isDemand, boolean isMirrored) {
        argument(in(newPeriod, 1, 100) && in(newLimit, 2, 100) && in(newSteps, 0, 8));
        int before = steps;
        period = newPeriod;
        limit = newLimit;
        steps = newSteps;
        demand = isDemand;
        mirrored = isMirrored;
        return before;
    }

    int spare(int bank, int row) {
        index(in(bank, 0, 1) && in(row, 0, 7));
        state(used[bank] < 2);
        int line = 8 + used[bank]++;
        for (int place = 0; place < 8; place++) {
            int address = bank * 64 + row * 8 + place;
            int word = word(address);
            if (decode(word, 1) == 2) {
                poison[address] = true;
                setWord(bank, line, place, word);
            } else {
                setWord(bank, line, place, encode(decode(word, 3)));
            }
        }
        lineOf[bank][row] = line;
        return used[bank];
    }

    int retire(int address, boolean isRetired) {
        index(in(address, 0, 127));
        retired[address] = isRetired;
        return many(retired);
    }

    private static int many(boolean[] flags) {
        int many = 0;
        for (boolean flag : flags) {
            many += flag ? 1 : 0;
        }
        return many;
    }

    private void beginTick() {
        tick++;
        for (Fault f : weak) {
            if (tick - fresh[f.bank][f.line] >= f.value) {
                setBit(f.bank, f.line, f.place, f.bit, false);
            }
        }
        if (tick % period == 0) {
            counts = new int[2][10];
            for (int line = 0; line < 10; line++) {
                fresh[0][line] = tick;
                fresh[1][line] = tick;
            }
        }
    }

    int pass(int ticks) {
        argument(in(ticks, 1, 100));
        state(tick + ticks <= 2000);
        for (int i = 0; i < ticks; i++) {
            beginTick();
            for (int step = 0; step < steps; step++) {
                int address = patrol;
                patrol = patrol == 127 ? 0 : patrol + 1;
                int told = decode(word(address), 1);
                if (poison[address] || retired[address] || told == 0) {
                    continue;
                }
                logged(address, decode(word(address), 2));
                if (told == 1) {
                    setWord(address, encode(decode(word(address), 3)));
                } else {
                    poison[address] = true;
                }
            }
        }
        return tick;
    }

    int clear() {
        int entries = log.size();
        log.clear();
        return entries;
    }

    int call() {
        return ++refused;
    }

    // ---- what is asked

    int column(int bit) {
        index(in(bit, 0, k + r - 1));
        return columns[bit];
    }

    int askEncode(int data) {
        argument(in(data, 0, (1 << k) - 1));
        return encode(data);
    }

    int askDecode(int word, int what) {
        argument(in(word, 0, (1 << (k + r)) - 1) && in(what, 0, 3));
        return decode(word, what);
    }

    int askFooled(int many) {
        argument(in(many, 2, 3));
        return fooled(many);
    }

    private int faultsIn(List<Fault> faults, int bank, int line, int place) {
        int many = 0;
        for (Fault f : faults) {
            many += f.bank == bank && f.line == line && (place < 0 || f.place == place) ? 1 : 0;
        }
        return many;
    }

    int ofWord(int address, int what) {
        index(in(address, 0, 127));
        argument(in(what, 0, 6));
        int[] all = {word(address), decode(word(address), 1), poison[address] ? 1 : 0,
            retired[address] ? 1 : 0, lineOf(address),
            faultsIn(stuck, bankOf(address), lineOf(address), address % 8),
            faultsIn(weak, bankOf(address), lineOf(address), address % 8)};
        return all[what];
    }

    private int unclean(int bank, int line) {
        int unclean = 0;
        for (int place = 0; place < 8; place++) {
            unclean += decode(number(cells[bank][line][place]), 1) == 0 ? 0 : 1;
        }
        return unclean;
    }

    int ofLine(int bank, int line, int what) {
        index(in(bank, 0, 1) && in(line, 0, 9));
        argument(in(what, 0, 4));
        int rowOn = -1;
        for (int row = 0; row < 8; row++) {
            rowOn = lineOf[bank][row] == line ? row : rowOn;
        }
        int[] all = {counts[bank][line], rowOn, tick - fresh[bank][line],
            faultsIn(stuck, bank, line, -1), unclean(bank, line)};
        return all[what];
    }

    int ofEntry(int entry, int what) {
        index(in(entry, 0, log.size() - 1));
        argument(in(what, 0, 2));
        return log.get(entry)[what];
    }

    int blame(int bank, boolean isWhat) {
        index(in(bank, 0, 1));
        for (int kind = 1; kind <= 4; kind++) {
            for (int number = 0; number < 128; number++) {
                if (isGuilty(bank, kind, number)) {
                    return isWhat ? number : kind;
                }
            }
        }
        return isWhat ? -1 : 0;
    }

    private boolean isGuilty(int bank, int kind, int number) {
        boolean[] rows = new boolean[8];
        boolean[] places = new boolean[8];
        int[] bits = new int[16];
        int entries = 0;
        for (int[] entry : log) {
            int row = entry[0] / 8 % 8;
            int place = entry[0] % 8;
            int[] keys = {0, entry[1], row, place, entry[0]};
            if (entry[1] >= 0 && entry[0] / 64 == bank && keys[kind] == number) {
                rows[row] = true;
                places[place] = true;
                bits[entry[1]]++;
                entries++;
            }
        }
        if (kind == 4) {
            for (int times : bits) {
                if (times >= 2) {
                    return true;
                }
            }
            return false;
        }
        return entries >= 3 && many(kind == 2 ? places : rows) >= 3;
    }

    int board(int what) {
        argument(in(what, 0, 17));
        int[] all = {tick, k, r, period, limit, steps, demand ? 1 : 0, mirrored ? 1 : 0, patrol,
            log.size(), mendedEver, badEver, many(poison), many(retired), stuck.size(), weak.size(),
            drawnEver, refused};
        return all[what];
    }

    double health(int bank) {
        index(in(bank, 0, 1));
        int well = 0;
        for (int address = bank * 64; address < bank * 64 + 64; address++) {
            well += decode(word(address), 1) == 0 && !poison[address] ? 1 : 0;
        }
        return well / 64.0;
    }

    String tell(int bank, int row) {
        index(in(bank, 0, 1) && in(row, 0, 7));
        String line = "";
        for (int address = bank * 64 + row * 8; address < bank * 64 + row * 8 + 8; address++) {
            line += retired[address] ? "x" : poison[address] ? "p"
                    : ".mB".substring(decode(word(address), 1), decode(word(address), 1) + 1);
        }
        return line;
    }

    int wouldRead(int address) {
        index(in(address, 0, 127));
        return retired[address] ? -2 : copy().read(address);
    }

    int wouldSpare(int bank) {
        index(in(bank, 0, 1));
        int best = -1;
        int most = 99;
        for (int row = 7; row >= 0; row--) {
            int line = lineOf[bank][row];
            int rank = unclean(bank, line) * 100 + faultsIn(stuck, bank, line, -1);
            if (unclean(bank, line) > 0 && rank >= most) {
                most = rank;
                best = row;
            }
        }
        return used[bank] == 2 ? -1 : best;
    }

    int wouldLeak(int ticks) {
        argument(in(ticks, 1, 100));
        Model m = copy();
        for (int i = 0; i < ticks; i++) {
            m.beginTick();
        }
        int leaks = 0;
        for (int bank = 0; bank < 2; bank++) {
            for (int line = 0; line < 10; line++) {
                for (int place = 0; place < 8; place++) {
                    int before = number(cells[bank][line][place]);
                    leaks += Integer.bitCount(before ^ m.number(m.cells[bank][line][place]));
                }
            }
        }
        return leaks;
    }

    long digest() {
        List<Long> told = new ArrayList<>();
        for (int what = 0; what < 18; what++) {
            told.add((long) board(what));
        }
        for (int column : columns) {
            told.add((long) column);
        }
        told.add((long) fooled(2));
        told.add((long) fooled(3));
        for (int bank = 0; bank < 2; bank++) {
            told.add((long) blame(bank, false));
            told.add((long) blame(bank, true));
            told.add((long) wouldSpare(bank));
            told.add((long) (64 * health(bank)));
            for (int line = 0; line < 10; line++) {
                for (int what = 0; what < 5; what++) {
                    told.add((long) ofLine(bank, line, what));
                }
            }
        }
        for (int address = 0; address < 128; address++) {
            told.add((long) word(address));
            told.add(poison[address] ? 1L : 0L);
            told.add((long) wouldRead(address));
        }
        for (int[] entry : log) {
            for (int value : entry) {
                told.add((long) value);
            }
        }
        told.add((long) wouldLeak(20));
        told.add(1L);
        long d = 58281;
        for (long value : told) {
            d = d * 31 + value;
        }
        return d;
    }
}
