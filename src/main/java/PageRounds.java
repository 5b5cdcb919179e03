import java.util.Arrays;

/** Pages that are sent round and round in little packets, as ../shared/DOC.md promises them. */
public final class PageRounds {
    public static final int NONE = -1, UNKNOWN = -1000000001, OUTSIDE = -1000000002, NOT = -1000000003, FULL = -1000000004;

    private static final int BOOKS = 4, KINDS = 8, PARTS = 8, FIGURES = 10;
    private static final int MOST_PAGES = 10, ROWS = 5, PLACES = 8, LINKS = 4, MOST_WEIGHT = 9;
    private static final int OCTETS = 10, BODY = 2, BITS = 8;
    private static final int HEAD = 0, LINKING = 6, NOTHING = 7;
    private static final int RULES = 4, MOST_SENDINGS = 60;
    private static final int MOST_DEEDS = 16, MOST_DRAWS = 16, IMAGES = 2;

    private final State state = new State();
    private final Trail trail = new Trail();
    private final State[] images = {new State(), new State()};
    private final boolean[] kept = new boolean[IMAGES];
    private final LetterBook letterBook = new LetterBook();
    private final Rounds rounds = new Rounds();
    private final int[] singles = new int[OCTETS];
    private final int[] whole = new int[OCTETS];
    private int singlesCame;

    public PageRounds() {
    }

    // ---- octets and packets

    public int coded(int v) {
        return isWithin(v, 0, 15) ? Guard.encode(v) : OUTSIDE;
    }

    public int read(int octet) {
        return isWithin(octet, 0, 255) ? Guard.decode(octet) : OUTSIDE;
    }

    public int octet(int v) {
        if (!isWithin(v, 0, 255) || !isWithin(singlesCame, 0, OCTETS - 1)) {
            return OUTSIDE;
        }
        singles[singlesCame] = v;
        singlesCame++;
        if (singlesCame == OCTETS) {
            singlesCame = 0;
            comes(singles);
        }
        return singlesCame;
    }

    public int packet(int book, int kind, long eight) {
        if (!isWithin(book, 0, BOOKS - 1) || !isWithin(kind, 0, KINDS - 1) || eight < 0) {
            return OUTSIDE;
        }
        whole[0] = Guard.encode(book);
        whole[1] = Guard.encode(kind);
        for (int i = BODY; i < OCTETS; i++) {
            int figure = (int) (eight >>> 4 * (OCTETS - 1 - i)) & 15;
            whole[i] = bodyOctet(kind, figure);
        }
        return comes(whole) ? 1 : 0;
    }

    public int told(int what) {
        switch (what) {
            case 0: return state.pages;
            case 1: return state.came;
            case 2: return state.lost;
            case 3: return state.mended;
            case 4: return singlesCame;
            case 5: return letterBook.entries;
            case 6: return letterBook.firstWrong(state);
            case 7: return trail.deeds;
            default: return OUTSIDE;
        }
    }

    public int open(int book) {
        return isWithin(book, 0, BOOKS - 1) ? state.open[book] : UNKNOWN;
    }

    // ---- pages

    public int page(int k, int what) {
        if (!state.has(k)) {
            return UNKNOWN;
        }
        switch (what) {
            case 0: return state.get(k, State.BOOK);
            case 1: return state.get(k, State.NUMBER);
            case 2: return state.get(k, State.PART);
            case 3: return state.get(k, State.HEADS);
            case 4: return state.get(k, State.WEIGHT);
            case 5: return Asked.length(state, k);
            case 6: return Asked.lacks(state, k);
            case 7: return Asked.sureOnes(state, k);
            case 8: return Asked.linked(state, k);
            default: return OUTSIDE;
        }
    }

    public int letter(int k, int row, int i) {
        if (!state.has(k)) {
            return UNKNOWN;
        }
        return isPlace(row, i) ? state.letterAt(k, row, i) : OUTSIDE;
    }

    public int link(int k, int j) {
        if (!state.has(k)) {
            return UNKNOWN;
        }
        return isWithin(j, 0, LINKS - 1) ? state.linkAt(k, j) : OUTSIDE;
    }

    public int far(int k, int other) {
        return state.has(k) && state.has(other) ? Asked.steps(state, k, other) : UNKNOWN;
    }

    public int find(int book, int number, int part) {
        return state.search(book, number, part);
    }

    // ---- deeds

    public int weight(int k, int v) {
        if (!state.has(k)) {
            return UNKNOWN;
        }
        if (!isWithin(v, 1, MOST_WEIGHT)) {
            return OUTSIDE;
        }
        trail.remember(state);
        int was = state.get(k, State.WEIGHT);
        state.set(k, State.WEIGHT, v);
        return was;
    }

    public int drop(int k) {
        if (!state.has(k)) {
            return UNKNOWN;
        }
        trail.remember(state);
        state.remove(k);
        return state.pages;
    }

    public int drift(int n) {
        if (!isWithin(n, 1, MOST_DRAWS)) {
            return OUTSIDE;
        }
        for (int i = 0; i < n; i++) {
            drawPacket();
            comes(whole);
        }
        return state.pages;
    }

    public int undo(int n) {
        if (!isWithin(n, 1, MOST_DEEDS)) {
            return OUTSIDE;
        }
        if (n > trail.deeds) {
            return NOT;
        }
        trail.takeBack(state, n);
        return state.came;
    }

    // ---- sent round

    public int sent(int rule, int i) {
        if (!isWithin(rule, 0, RULES - 1) || !isWithin(i, 0, MOST_SENDINGS - 1)) {
            return OUTSIDE;
        }
        rounds.prepare(state);
        return rounds.run(rule, i + 1);
    }

    public int waits(int k, int rule, int n) {
        if (!state.has(k)) {
            return UNKNOWN;
        }
        if (!isWithin(rule, 0, RULES - 1) || !isWithin(n, 1, MOST_SENDINGS)) {
            return OUTSIDE;
        }
        rounds.prepare(state);
        rounds.run(rule, n);
        return rounds.waitOf(k);
    }

    public int bestRule(int n) {
        if (!isWithin(n, 1, MOST_SENDINGS)) {
            return OUTSIDE;
        }
        rounds.prepare(state);
        return rounds.best(n);
    }

    // ---- the book

    public int write(int k, int row, int i, int letter) {
        if (!state.has(k)) {
            return UNKNOWN;
        }
        if (!isPlace(row, i) || !isWithin(letter, 0, 127)) {
            return OUTSIDE;
        }
        return letterBook.add(k, row, i, letter) ? letterBook.entries : FULL;
    }

    public int tear() {
        int had = letterBook.entries;
        letterBook.entries = 0;
        return had;
    }

    // ---- images

    public int seed(int v) {
        if (v < 0) {
            return OUTSIDE;
        }
        int was = state.seed;
        state.seed = v;
        return was;
    }

    public int keep(int i) {
        if (!isWithin(i, 0, IMAGES - 1)) {
            return UNKNOWN;
        }
        images[i].become(state);
        images[i].seed = state.seed;
        kept[i] = true;
        trail.forget();
        return 1;
    }

    public int goBack(int i) {
        if (!isWithin(i, 0, IMAGES - 1)) {
            return UNKNOWN;
        }
        if (!kept[i]) {
            return NOT;
        }
        state.become(images[i]);
        state.seed = images[i].seed;
        trail.forget();
        return 1;
    }

    // ---- what the calls share

    private static boolean isWithin(int v, int least, int most) {
        return least <= v && v <= most;
    }

    private static boolean isPlace(int row, int i) {
        return isWithin(row, 0, ROWS - 1) && isWithin(i, 0, PLACES - 1);
    }

    private boolean comes(int[] octets) {
        trail.remember(state);
        state.came++;
        boolean taken = Receiver.take(state, octets);
        if (!taken) {
            state.lost++;
        }
        return taken;
    }

    private static int bodyOctet(int kind, int figure) {
        return kind == HEAD || kind == LINKING ? Guard.encode(figure) : Guard.oddOctet(64 + figure);
    }

    private void drawPacket() {
        int book = state.draw(BOOKS);
        int kind = state.draw(KINDS);
        whole[0] = Guard.encode(book);
        whole[1] = Guard.encode(kind);
        for (int i = BODY; i < OCTETS; i++) {
            whole[i] = bodyOctet(kind, state.draw(FIGURES));
        }
        int bit = state.draw(OCTETS * BITS);
        whole[bit / BITS] ^= 1 << bit % BITS;
    }

    /** Octets that bear a number or a letter, and how they are told from spoiled ones. */
    private static final class Guard {
        // Bits from 0 on: p, a, q, b, r, c, s, d of each number; any two differ in four bits at least.
        private static final int[] CODES = {21, 2, 73, 94, 100, 115, 56, 47, 208, 199, 140, 155, 161, 182, 253, 234};

        static int encode(int v) {
            return CODES[v & 15];
        }

        static int decode(int octet) {
            for (int v = 0; v < CODES.length; v++) {
                if (Integer.bitCount(octet ^ CODES[v]) <= 1) {
                    return v;
                }
            }
            return NONE;
        }

        static boolean isWell(int octet) {
            return (Integer.bitCount(octet) & 1) == 1;
        }

        static int oddOctet(int letter) {
            return isWell(letter) ? letter : letter | 128;
        }
    }

    /** What an image keeps: pages, which are open, what was counted, the seed. */
    private static final class State {
        // Cells of a page; LAST_HEAD tells how many heads had come at its latest one.
        static final int BOOK = 0, NUMBER = 1, PART = 2, HEADS = 3, WEIGHT = 4, LAST_HEAD = 5;
        private static final int FIRST_LINK = 6, FIRST_LETTER = FIRST_LINK + LINKS, CELLS = FIRST_LETTER + ROWS * PLACES;
        private static final int UNSURE = 128, MOST_MENDED = 99999, MOST_HEADS = 9999;

        private final int[] cells = new int[MOST_PAGES * CELLS];
        final int[] open = new int[BOOKS];
        int pages, came, lost, mended, seed;
        private int headsTaken;

        State() {
            Arrays.fill(open, NONE);
        }

        /** All but the seed, which stays when deeds are undone. */
        void become(State other) {
            System.arraycopy(other.cells, 0, cells, 0, other.pages * CELLS);
            System.arraycopy(other.open, 0, open, 0, open.length);
            pages = other.pages;
            came = other.came;
            lost = other.lost;
            mended = other.mended;
            headsTaken = other.headsTaken;
        }

        int draw(int n) {
            seed = (int) ((seed * 1103515245L + 12345L) % 2147483648L);
            return n < 1 ? 0 : Math.floorMod(seed / 65536, n);
        }

        void countMended(int[] octets, int from, int end) {
            for (int i = from; i < end && i < octets.length; i++) {
                int v = Guard.decode(octets[i]);
                if (v != NONE && octets[i] != Guard.encode(v) && mended < MOST_MENDED) {
                    mended++;
                }
            }
        }

        boolean has(int k) {
            return isWithin(k, 0, pages - 1);
        }

        int get(int k, int cell) {
            int at = k * CELLS + cell;
            return at < 0 || at >= cells.length ? NONE : cells[at];
        }

        void set(int k, int cell, int v) {
            int at = k * CELLS + cell;
            if (at >= 0 && at < cells.length) {
                cells[at] = v;
            }
        }

        int linkAt(int k, int j) {
            return get(k, FIRST_LINK + j);
        }

        void putLink(int k, int j, int number) {
            set(k, FIRST_LINK + j, number);
        }

        /** The letter, UNSURE more if it is so; NONE. */
        int letterAt(int k, int row, int i) {
            return get(k, FIRST_LETTER + row * PLACES + i);
        }

        void putLetter(int k, int row, int i, int octet) {
            int cell = FIRST_LETTER + row * PLACES + i;
            int letter = octet & 127;
            if (Guard.isWell(octet)) {
                set(k, cell, letter);
            } else if (!isSure(get(k, cell))) {
                set(k, cell, letter + UNSURE);
            }
        }

        static boolean isSure(int letter) {
            return isWithin(letter, 0, UNSURE - 1);
        }

        void clear(int k) {
            if (k >= 0 && k < MOST_PAGES) {
                Arrays.fill(cells, k * CELLS + FIRST_LINK, (k + 1) * CELLS, NONE);
            }
        }

        int search(int book, int number, int part) {
            for (int k = 0; k < pages; k++) {
                if (get(k, BOOK) == book && get(k, NUMBER) == number && get(k, PART) == part) {
                    return k;
                }
            }
            return NONE;
        }

        /** Opens the page in its book, making it (and room for it) if there is none. */
        int openPage(int book, int number, int part) {
            int k = search(book, number, part);
            if (k == NONE) {
                if (pages >= MOST_PAGES) {
                    remove(longestAgo());
                }
                k = append(book, number, part);
                clear(k);
            }
            headsTaken++;
            set(k, LAST_HEAD, headsTaken);
            set(k, HEADS, Math.min(get(k, HEADS) + 1, MOST_HEADS));
            if (isWithin(book, 0, BOOKS - 1)) {
                open[book] = k;
            }
            return k;
        }

        private int append(int book, int number, int part) {
            int k = pages;
            pages++;
            set(k, BOOK, book);
            set(k, NUMBER, number);
            set(k, PART, part);
            set(k, HEADS, 0);
            set(k, WEIGHT, 1);
            return k;
        }

        void remove(int k) {
            if (k < 0 || k >= pages) {
                return;
            }
            System.arraycopy(cells, (k + 1) * CELLS, cells, k * CELLS, (pages - 1 - k) * CELLS);
            pages--;
            for (int book = 0; book < BOOKS; book++) {
                if (open[book] == k) {
                    open[book] = NONE;
                } else if (open[book] > k) {
                    open[book]--;
                }
            }
        }

        private int longestAgo() {
            int oldest = 0;
            for (int k = 1; k < pages; k++) {
                if (get(k, LAST_HEAD) < get(oldest, LAST_HEAD)) {
                    oldest = k;
                }
            }
            return oldest;
        }
    }

    /** Puts what a packet of ten octets brings into a state. */
    private static final class Receiver {
        /** Whether the packet was taken; else it is lost. */
        static boolean take(State state, int[] octets) {
            if (octets.length < OCTETS) {
                return false;
            }
            state.countMended(octets, 0, BODY);
            int book = Guard.decode(octets[0]);
            int kind = Guard.decode(octets[1]);
            if (!isWithin(book, 0, BOOKS - 1)) {
                return false;
            }
            switch (kind) {
                case HEAD: return takeHead(state, book, octets);
                case LINKING: return takeLinks(state, state.open[book], octets);
                case NOTHING: return true;
                default: return takeRow(state, state.open[book], kind - 1, octets);
            }
        }

        private static boolean takeHead(State state, int book, int[] octets) {
            state.countMended(octets, 2, 6);
            int number = numberAt(octets, 2);
            int part = Guard.decode(octets[4]);
            int flags = Guard.decode(octets[5]);
            if (number == NONE || !isWithin(part, 0, PARTS - 1) || flags == NONE) {
                state.open[book] = NONE;
                return false;
            }
            int k = state.openPage(book, number, part);
            if ((flags & 1) == 1) {
                state.clear(k);
            }
            return true;
        }

        private static boolean takeLinks(State state, int k, int[] octets) {
            if (!state.has(k)) {
                return false;
            }
            state.countMended(octets, BODY, OCTETS);
            for (int j = 0; j < LINKS; j++) {
                int number = numberAt(octets, BODY + 2 * j);
                if (number != NONE) {
                    state.putLink(k, j, number);
                }
            }
            return true;
        }

        private static boolean takeRow(State state, int k, int row, int[] octets) {
            if (!state.has(k) || !isWithin(row, 0, ROWS - 1)) {
                return false;
            }
            for (int i = 0; i < PLACES; i++) {
                state.putLetter(k, row, i, octets[BODY + i]);
            }
            return true;
        }

        /** The number whose units are at a place of the packet, its tens behind them; NONE. */
        private static int numberAt(int[] octets, int at) {
            int units = Guard.decode(octets[at]);
            int tens = Guard.decode(octets[at + 1]);
            boolean isNumber = isWithin(units, 0, FIGURES - 1) && isWithin(tens, 0, FIGURES - 1);
            return isNumber ? FIGURES * tens + units : NONE;
        }
    }

    /** The states ahead of the latest deeds, in a ring. */
    private static final class Trail {
        private final State[] ahead = new State[MOST_DEEDS];
        private int next;
        int deeds;

        Trail() {
            for (int i = 0; i < MOST_DEEDS; i++) {
                ahead[i] = new State();
            }
        }

        void remember(State state) {
            ahead[next].become(state);
            next = (next + 1) % MOST_DEEDS;
            deeds = Math.min(deeds + 1, MOST_DEEDS);
        }

        void takeBack(State state, int n) {
            next = Math.floorMod(next - n, MOST_DEEDS);
            deeds -= n;
            state.become(ahead[next]);
        }

        void forget() {
            deeds = 0;
        }
    }

    /** What is asked of the pages of a state. */
    private static final class Asked {
        static int length(State state, int k) {
            int rows = ROWS - Integer.bitCount(lacks(state, k));
            return 1 + rows + (hasLinks(state, k) ? 1 : 0);
        }

        static int lacks(State state, int k) {
            int rows = 0;
            for (int row = 0; row < ROWS; row++) {
                if (!hasLetters(state, k, row)) {
                    rows |= 1 << row;
                }
            }
            return rows;
        }

        static int sureOnes(State state, int k) {
            int sure = 0;
            for (int row = 0; row < ROWS; row++) {
                for (int i = 0; i < PLACES; i++) {
                    if (State.isSure(state.letterAt(k, row, i))) {
                        sure++;
                    }
                }
            }
            return sure;
        }

        static int linked(State state, int k) {
            int pages = 0;
            for (int other = 0; other < state.pages; other++) {
                if (leadsTo(state, k, other)) {
                    pages |= 1 << other;
                }
            }
            return pages;
        }

        /** The least number of links from a page to another; NONE. */
        static int steps(State state, int from, int to) {
            int reached = 1 << from;
            for (int steps = 0; steps < MOST_PAGES; steps++) {
                if ((reached >> to & 1) == 1) {
                    return steps;
                }
                reached |= linkedFromAny(state, reached);
            }
            return NONE;
        }

        private static int linkedFromAny(State state, int pages) {
            int all = 0;
            for (int k = 0; k < state.pages; k++) {
                if ((pages >> k & 1) == 1) {
                    all |= linked(state, k);
                }
            }
            return all;
        }

        private static boolean leadsTo(State state, int k, int other) {
            if (state.get(k, State.BOOK) != state.get(other, State.BOOK)) {
                return false;
            }
            int number = state.get(other, State.NUMBER);
            for (int j = 0; j < LINKS; j++) {
                if (state.linkAt(k, j) == number) {
                    return true;
                }
            }
            return false;
        }

        private static boolean hasLetters(State state, int k, int row) {
            for (int i = 0; i < PLACES; i++) {
                if (state.letterAt(k, row, i) != NONE) {
                    return true;
                }
            }
            return false;
        }

        private static boolean hasLinks(State state, int k) {
            for (int j = 0; j < LINKS; j++) {
                if (state.linkAt(k, j) != NONE) {
                    return true;
                }
            }
            return false;
        }
    }

    /** Pages sent one by one by a rule, on rows of its own. */
    private static final class Rounds {
        private final int[] lengths = new int[MOST_PAGES];
        private final int[] weights = new int[MOST_PAGES];
        private final int[] times = new int[MOST_PAGES];
        private final int[] ends = new int[MOST_PAGES];
        private final int[] waited = new int[MOST_PAGES];
        private int pages, time;

        void prepare(State state) {
            pages = Math.min(state.pages, MOST_PAGES);
            for (int k = 0; k < pages; k++) {
                lengths[k] = Asked.length(state, k);
                weights[k] = state.get(k, State.WEIGHT);
            }
        }

        /** The page that is sent last of so many sendings; NONE. */
        int run(int rule, int sendings) {
            Arrays.fill(times, 0);
            Arrays.fill(ends, 0);
            Arrays.fill(waited, 0);
            time = 0;
            int k = NONE;
            for (int i = 0; i < sendings && pages > 0; i++) {
                k = rule == 0 ? i % pages : foremost(rule);
                time += lengths[k];
                waitEnds(k);
                ends[k] = time;
                times[k]++;
            }
            for (int other = 0; other < pages; other++) {
                waitEnds(other);
            }
            return k;
        }

        int waitOf(int k) {
            return isWithin(k, 0, pages - 1) ? waited[k] : NONE;
        }

        int best(int sendings) {
            int best = NONE;
            int least = 0;
            for (int rule = 0; rule < RULES && pages > 0; rule++) {
                int worst = worstWait(rule, sendings);
                if (best == NONE || worst < least) {
                    best = rule;
                    least = worst;
                }
            }
            return best;
        }

        private int worstWait(int rule, int sendings) {
            run(rule, sendings);
            int worst = 0;
            for (int k = 0; k < pages; k++) {
                worst = Math.max(worst, weights[k] * waited[k]);
            }
            return worst;
        }

        private void waitEnds(int k) {
            waited[k] = Math.max(waited[k], time - ends[k]);
        }

        private int foremost(int rule) {
            int first = 0;
            for (int k = 1; k < pages; k++) {
                if (goesAhead(rule, k, first)) {
                    first = k;
                }
            }
            return first;
        }

        private boolean goesAhead(int rule, int k, int other) {
            switch (rule) {
                case 1: return urgency(k) > urgency(other);
                case 2: return cost(k) * weights[other] < cost(other) * weights[k];
                default: return cost(k) < cost(other);
            }
        }

        private int urgency(int k) {
            return weights[k] * (time - ends[k] + 1);
        }

        private int cost(int k) {
            return (times[k] + 1) * lengths[k];
        }
    }

    /** Letters that should stand at places, in the order in which they were written. */
    private static final class LetterBook {
        private static final int MOST_ENTRIES = 20;

        private final int[] pages = new int[MOST_ENTRIES];
        private final int[] rows = new int[MOST_ENTRIES];
        private final int[] places = new int[MOST_ENTRIES];
        private final int[] letters = new int[MOST_ENTRIES];
        int entries;

        boolean add(int k, int row, int i, int letter) {
            if (!isWithin(entries, 0, MOST_ENTRIES - 1)) {
                return false;
            }
            pages[entries] = k;
            rows[entries] = row;
            places[entries] = i;
            letters[entries] = letter;
            entries++;
            return true;
        }

        int firstWrong(State state) {
            for (int e = 0; e < entries; e++) {
                if (!isRight(state, e)) {
                    return e;
                }
            }
            return NONE;
        }

        private boolean isRight(State state, int e) {
            if (!state.has(pages[e])) {
                return false;
            }
            int letter = state.letterAt(pages[e], rows[e], places[e]);
            return letter != NONE && (letter & 127) == letters[e];
        }
    }
}
