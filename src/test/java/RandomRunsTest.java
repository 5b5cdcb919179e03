/** Long runs of every call, ordinary and wrong, held against the model; every run has at most 512 calls. */
public final class RandomRunsTest {
    private static final int RUNS = 1500, CALLS = 512;

    private long dice;
    private final PageRounds x = new PageRounds();
    private final Model m = new Model();
    private final int run;
    private int calls;

    private RandomRunsTest(int run) {
        this.run = run;
        dice = run * 7919L + 17;
    }

    public static void main(String[] args) {
        for (int run = 0; run < RUNS; run++) {
            new RandomRunsTest(run).go();
        }
        Check.end();
    }

    private int roll(int n) {
        dice = dice * 6364136223846793005L + 1442695040888963407L;
        return (int) ((dice >>> 33) % n);
    }

    /** Mostly 0 .. most, at times just outside, seldom far outside. */
    private int near(int most) {
        int chance = roll(40);
        if (chance == 0) {
            return -1;
        }
        if (chance == 1) {
            return most + 1;
        }
        if (chance == 2) {
            return new int[] {Check.MIN, Check.MAX, -1000, 1000, 1 << 30}[roll(5)];
        }
        return roll(most + 1);
    }

    private int aPage() {
        return near(Math.max(0, m.told(0) - 1));
    }

    private int aBook() {
        return roll(12) == 0 ? near(3) : roll(2) + (run % 2);
    }

    private int aNumber() {
        return roll(10) == 0 ? roll(100) : roll(4) + 10 * roll(2);
    }

    private void due(String call, int got, int want) {
        calls++;
        Check.due("run " + run + ", call " + calls + ": " + call, got, want);
    }

    private void go() {
        if (roll(2) == 0) {
            int v = roll(1 << 30);
            due("seed(" + v + ")", x.seed(v), m.seed(v));
        }
        int style = roll(4);
        while (calls < CALLS - 120) {
            step(style);
        }
        lookAtAll();
        while (calls < CALLS) {
            ask();
        }
    }

    private void step(int style) {
        int chance = roll(100);
        if (chance < 40) {
            if (style == 0) {
                aDrift();
            } else if (style == 1) {
                someOctets();
            } else {
                aPacket();
            }
        } else if (chance < 55) {
            aDeed();
        } else if (chance < 62) {
            anImage();
        } else {
            ask();
        }
    }

    private void aPacket() {
        int book = aBook(), kind = roll(30) == 0 ? near(7) : new int[] {0, 0, 0, 1, 2, 3, 4, 5, 6, 6, 7}[roll(11)];
        long eight = Check.figures(roll(16), roll(16), roll(16), roll(16), roll(16), roll(16), roll(16), roll(16));
        if (kind == 0 && roll(8) > 0) {
            eight = Check.head(aNumber(), roll(3), roll(6) == 0 ? roll(16) : 2 * roll(8));
        } else if (kind == 6 && roll(8) > 0) {
            eight = Check.links(aLink(), aLink(), aLink(), aLink());
        }
        if (roll(10) == 0) {
            eight |= (long) roll(1 << 30) << 32;
        }
        if (roll(40) == 0) {
            eight |= Long.MIN_VALUE;
        }
        due("packet(" + book + ", " + kind + ", " + eight + ")", x.packet(book, kind, eight), m.packet(book, kind, eight));
    }

    private int aLink() {
        return roll(3) == 0 ? Check.NONE : aNumber();
    }

    private void someOctets() {
        int kind = new int[] {0, 0, 1, 2, 3, 4, 5, 6, 7, 8 + roll(8)}[roll(10)];
        int[] ten = Check.codedOctets(roll(15) == 0 ? roll(16) : roll(2) + run % 2, kind, 0, 0, 0, 0, 0, 0, 0, 0);
        for (int i = 2; i < 10; i++) {
            ten[i] = kind == 0 || kind == 6 ? Check.coded(roll(12) == 0 ? roll(16) : roll(4)) : Check.well(roll(128));
        }
        int spoiled = roll(3) == 0 ? roll(12) : roll(2);
        for (int i = 0; i < spoiled; i++) {
            ten[roll(10)] ^= 1 << roll(8);
        }
        int some = roll(12) == 0 ? roll(10) : 10;
        for (int i = 0; i < some; i++) {
            int v = roll(60) == 0 ? near(255) : ten[i];
            due("octet(" + v + ")", x.octet(v), m.octet(v));
        }
    }

    private void aDrift() {
        int n = roll(10) == 0 ? near(17) : 1 + roll(16);
        due("drift(" + n + ")", x.drift(n), m.drift(n));
    }

    private void aDeed() {
        int k = aPage();
        switch (roll(6)) {
            case 0:
            case 1:
            case 2: {
                int v = near(9);
                due("weight(" + k + ", " + v + ")", x.weight(k, v), m.weight(k, v));
                break;
            }
            case 3:
                due("drop(" + k + ")", x.drop(k), m.drop(k));
                break;
            case 4: {
                int n = roll(3) == 0 ? near(17) : 1 + roll(3);
                due("undo(" + n + ")", x.undo(n), m.undo(n));
                break;
            }
            default:
                aDrift();
        }
    }

    private void anImage() {
        int i = near(1), chance = roll(12);
        if (chance == 0) {
            due("keep(" + i + ")", x.keep(i), m.keep(i));
        } else if (chance == 1) {
            due("goBack(" + i + ")", x.goBack(i), m.goBack(i));
        } else if (chance == 2) {
            int v = near(Check.MAX - 1);
            due("seed(" + v + ")", x.seed(v), m.seed(v));
        } else if (chance == 3 && roll(4) == 0) {
            due("tear()", x.tear(), m.tear());
        } else {
            int k = aPage(), row = near(4), place = near(7), now = m.letter(k, row, place);
            int letter = now >= 0 && roll(8) > 0 ? now & 127 : near(127);
            due("write(" + k + ", " + row + ", " + place + ", " + letter + ")",
                x.write(k, row, place, letter), m.write(k, row, place, letter));
        }
    }

    private void ask() {
        int k = aPage(), other = aPage(), rule = near(3), n = 1 + near(60), v = near(255);
        switch (roll(14)) {
            case 0: due("coded(" + v % 20 + ")", x.coded(v % 20), m.coded(v % 20)); break;
            case 1: due("read(" + v + ")", x.read(v), m.read(v)); break;
            case 2:
            case 3: tell(near(7)); break;
            case 4: due("open", x.open(rule), m.open(rule)); break;
            case 5:
            case 6: aboutPage(k, near(8)); break;
            case 7: aboutLetter(k, near(4), near(7)); break;
            case 8: due("link", x.link(k, rule), m.link(k, rule)); break;
            case 9: due("far(" + k + ", " + other + ")", x.far(k, other), m.far(k, other)); break;
            case 10: {
                int book = near(3), number = aNumber(), part = near(2);
                due("find(" + book + ", " + number + ", " + part + ")", x.find(book, number, part), m.find(book, number, part));
                break;
            }
            case 11: due("sent(" + rule + ", " + (n - 1) + ")", x.sent(rule, n - 1), m.sent(rule, n - 1)); break;
            case 12: due("waits(" + k + ", " + rule + ", " + n + ")", x.waits(k, rule, n), m.waits(k, rule, n)); break;
            default: due("bestRule(" + n + ")", x.bestRule(n), m.bestRule(n));
        }
    }

    private void tell(int what) {
        due("told(" + what + ")", x.told(what), m.told(what));
    }

    private void aboutPage(int k, int what) {
        due("page(" + k + ", " + what + ")", x.page(k, what), m.page(k, what));
    }

    private void aboutLetter(int k, int row, int i) {
        due("letter(" + k + ", " + row + ", " + i + ")", x.letter(k, row, i), m.letter(k, row, i));
    }

    private void lookAtAll() {
        for (int what = 0; what < 8; what++) {
            tell(what);
        }
        for (int k = 0; k < m.told(0); k++) {
            for (int what = 0; what < 9; what++) {
                aboutPage(k, what);
            }
        }
    }
}
