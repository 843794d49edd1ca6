/** All promises at once: long runs of drawn calls, each answered by Scrubward and by Model. */
final class ModelTest {
    private static final int RUNS = 120;
    private static final int CALLS = 512;
    private static final int DIGEST_EACH = 16;
    private static final String[] NAMES = {"code", "write", "read", "ray", "stick", "weak", "hammer",
        "run", "spare", "retire", "pass", "clear", "call", "column", "encode", "decode", "fooled",
        "ofWord", "ofLine", "ofEntry", "blame", "board", "health", "tell", "wouldRead", "wouldSpare",
        "wouldLeak", "isSound", "digest"};
    /** How often each call comes, of all. */
    private static final int[] SHARES = {1, 16, 24, 16, 6, 6, 8, 4, 2, 4, 10, 2, 1, 1, 2, 3, 1,
        5, 4, 4, 5, 4, 3, 6, 6, 4, 5, 1, 0};

    private final Checks checks = new Checks();
    private long seed = 20261119L;
    private Scrubward x;
    private Model m;
    /** Addresses are mostly drawn near to it, so that calls of one run meet. */
    private int home;

    public static void main(String[] args) {
        ModelTest test = new ModelTest();
        for (int run = 0; run < RUNS; run++) {
            test.oneRun(run);
        }
        test.checks.end();
    }

    private void oneRun(int run) {
        x = new Scrubward();
        m = new Model();
        home = draw(128);
        for (int i = 0; i < CALLS - 1; i++) {
            int[] a = new int[5];
            int call = i % DIGEST_EACH == 0 ? NAMES.length - 1 : drawCall();
            if (call == 28 || call == 27 || fill(call, a)) {
                String text = "run " + run + " call " + i + ": " + NAMES[call] + "(" + a[0] + ", " + a[1]
                        + ", " + a[2] + ", " + a[3] + ", " + a[4] + ")";
                checks.dueText(text, answer(call, a, true), answer(call, a, false));
            }
        }
        checks.due("run " + run + " ends: digest()", x.digest(), m.digest());
    }

    private int draw(int bound) {
        seed = seed * 6364136223846793005L + 1442695040888963407L;
        return (int) ((seed >>> 33) % bound);
    }

    private int drawCall() {
        int all = 0;
        for (int share : SHARES) {
            all += share;
        }
        int at = draw(all);
        int call = 0;
        while (at >= SHARES[call]) {
            at -= SHARES[call];
            call++;
        }
        return call;
    }

    /** A number of the bounds, now and then one just outside them or far away. */
    private int near(int from, int to) {
        switch (draw(40)) {
            case 0:
                return from - 1;
            case 1:
                return to + 1;
            case 2:
                return draw(9) == 0 ? Integer.MIN_VALUE + draw(3) : from;
            case 3:
                return draw(9) == 0 ? Integer.MAX_VALUE - draw(3) : to;
            default:
                return from + draw(to - from + 1);
        }
    }

    private int address() {
        switch (draw(8)) {
            case 0:
                return near(0, 127);
            case 1:
                return (home + 64 + draw(3)) % 128;
            case 2:
                return (home + 8 * draw(8)) % 128;
            case 3:
                return m.patrol;
            default:
                return (home + draw(10)) % 128;
        }
    }

    private int bits() {
        int width = m.k + m.r;
        switch (draw(6)) {
            case 0:
                return near(1, (1 << width) - 1);
            case 1:
            case 2:
                return 1 << draw(width) | 1 << draw(width);
            default:
                return 1 << draw(width);
        }
    }

    private boolean fill(int call, int[] a) {
        a[0] = address();
        switch (NAMES[call]) {
            case "code":
                a[0] = near(4, 10);
                a[1] = near(4, 6);
                return draw(3) == 0;
            case "write":
                a[1] = near(0, (1 << m.k) - 1);
                return true;
            case "ray":
                a[1] = bits();
                return true;
            case "stick":
                a[1] = near(0, m.k + m.r - 1);
                a[2] = draw(2);
                return true;
            case "weak":
                a[1] = near(0, m.k + m.r - 1);
                a[2] = draw(2) == 0 ? near(1, 60) : near(1, 9);
                return true;
            case "hammer":
                a[0] = near(0, 1);
                a[1] = near(0, 7);
                a[2] = draw(4) == 0 ? near(1, 100) : near(1, 9);
                return true;
            case "run":
                a[0] = draw(3) == 0 ? near(1, 100) : near(5, 30);
                a[1] = draw(2) == 0 ? near(2, 100) : 2 + draw(8);
                a[2] = near(0, 8);
                a[3] = draw(2);
                a[4] = draw(2);
                return true;
            case "spare":
                a[0] = near(0, 1);
                a[1] = near(0, 7);
                return draw(2) == 0;
            case "retire":
                a[1] = draw(2);
                return true;
            case "pass":
                a[0] = draw(6) == 0 ? near(1, 100) : near(1, 12);
                return true;
            case "column":
                a[0] = near(0, m.k + m.r - 1);
                return true;
            case "encode":
                a[0] = near(0, (1 << m.k) - 1);
                return true;
            case "decode":
                a[0] = near(0, (1 << (m.k + m.r)) - 1);
                a[1] = near(0, 3);
                return true;
            case "fooled":
                a[0] = near(2, 3);
                return true;
            case "ofWord":
                a[1] = near(0, 6);
                return true;
            case "ofLine":
                a[0] = near(0, 1);
                a[1] = near(0, 9);
                a[2] = near(0, 4);
                return true;
            case "ofEntry":
                a[0] = near(0, Math.max(m.log.size() - 1, 0));
                a[1] = near(0, 2);
                return true;
            case "blame":
                a[0] = near(0, 1);
                a[1] = draw(2);
                return true;
            case "board":
                a[0] = near(0, 17);
                return true;
            case "health":
            case "wouldSpare":
                a[0] = near(0, 1);
                return true;
            case "tell":
                a[0] = near(0, 1);
                a[1] = near(0, 7);
                return true;
            case "wouldLeak":
                a[0] = near(1, 100);
                return true;
            default:
                return true;
        }
    }

    private String answer(int call, int[] a, boolean isScrubward) {
        try {
            return isScrubward ? answerOfScrubward(call, a) : answerOfModel(call, a);
        } catch (RuntimeException e) {
            return "throws." + e.getClass().getSimpleName();
        }
    }

    private String answerOfScrubward(int call, int[] a) {
        switch (NAMES[call]) {
            case "code": return "" + x.code(a[0], a[1]);
            case "write": return "" + x.write(a[0], a[1]);
            case "read": return "" + x.read(a[0]);
            case "ray": return "" + x.ray(a[0], a[1]);
            case "stick": return "" + x.stick(a[0], a[1], a[2] == 1);
            case "weak": return "" + x.weak(a[0], a[1], a[2]);
            case "hammer": return "" + x.hammer(a[0], a[1], a[2]);
            case "run": return "" + x.run(a[0], a[1], a[2], a[3] == 1, a[4] == 1);
            case "spare": return "" + x.spare(a[0], a[1]);
            case "retire": return "" + x.retire(a[0], a[1] == 1);
            case "pass": return "" + x.pass(a[0]);
            case "clear": return "" + x.clear();
            case "call": return "" + x.call();
            case "column": return "" + x.column(a[0]);
            case "encode": return "" + x.encode(a[0]);
            case "decode": return "" + x.decode(a[0], a[1]);
            case "fooled": return "" + x.fooled(a[0]);
            case "ofWord": return "" + x.ofWord(a[0], a[1]);
            case "ofLine": return "" + x.ofLine(a[0], a[1], a[2]);
            case "ofEntry": return "" + x.ofEntry(a[0], a[1]);
            case "blame": return "" + x.blame(a[0], a[1] == 1);
            case "board": return "" + x.board(a[0]);
            case "health": return "" + x.health(a[0]);
            case "tell": return x.tell(a[0], a[1]);
            case "wouldRead": return "" + x.wouldRead(a[0]);
            case "wouldSpare": return "" + x.wouldSpare(a[0]);
            case "wouldLeak": return "" + x.wouldLeak(a[0]);
            case "isSound": return "" + x.isSound();
            default: return "" + x.digest();
        }
    }

    private String answerOfModel(int call, int[] a) {
        switch (NAMES[call]) {
            case "code": return "" + m.code(a[0], a[1]);
            case "write": return "" + m.write(a[0], a[1]);
            case "read": return "" + m.read(a[0]);
            case "ray": return "" + m.ray(a[0], a[1]);
            case "stick": return "" + m.stick(a[0], a[1], a[2] == 1);
            case "weak": return "" + m.weak(a[0], a[1], a[2]);
            case "hammer": return "" + m.hammer(a[0], a[1], a[2]);
            case "run": return "" + m.run(a[0], a[1], a[2], a[3] == 1, a[4] == 1);
            case "spare": return "" + m.spare(a[0], a[1]);
            case "retire": return "" + m.retire(a[0], a[1] == 1);
            case "pass": return "" + m.pass(a[0]);
            case "clear": return "" + m.clear();
            case "call": return "" + m.call();
            case "column": return "" + m.column(a[0]);
            case "encode": return "" + m.askEncode(a[0]);
            case "decode": return "" + m.askDecode(a[0], a[1]);
            case "fooled": return "" + m.askFooled(a[0]);
            case "ofWord": return "" + m.ofWord(a[0], a[1]);
            case "ofLine": return "" + m.ofLine(a[0], a[1], a[2]);
            case "ofEntry": return "" + m.ofEntry(a[0], a[1]);
            case "blame": return "" + m.blame(a[0], a[1] == 1);
            case "board": return "" + m.board(a[0]);
            case "health": return "" + m.health(a[0]);
            case "tell": return m.tell(a[0], a[1]);
            case "wouldRead": return "" + m.wouldRead(a[0]);
            case "wouldSpare": return "" + m.wouldSpare(a[0]);
            case "wouldLeak": return "" + m.wouldLeak(a[0]);
            case "isSound": return "true";
            default: return "" + m.digest();
        }
    }
}
