import java.util.function.IntToLongFunction;

/**
 * Every number that has bounds, call by call: the least and the greatest that is allowed answer what is due, the next on
 * both sides, and the farthest, are refused.
 */
public final class BoundsTest {
    public static void main(String[] args) {
        codesAndOctets();
        packets();
        asked();
        pages();
        placesAndLinks();
        findHasNoRefusals();
        deeds();
        sentRound();
        theBook();
        seedsAndImages();
        pagesOfAFullOne();
        Check.end();
    }

    /** The call with least and most, then with what lies outside; each call is made on an object of its own. */
    private static void bounds(String call, IntToLongFunction ask, int least, long atLeast, int most, long atMost, int refusal) {
        Check.due(call + " with " + least, ask.applyAsLong(least), atLeast);
        Check.due(call + " with " + most, ask.applyAsLong(most), atMost);
        for (int v : new int[] {Check.MIN, Check.MIN + 1, least - 256, least - 10, least - 2, least - 1}) {
            Check.due(call + " with " + v, ask.applyAsLong(v), refusal);
        }
        if (most < Check.MAX) {
            for (int v : new int[] {most + 1, most + 2, most + 10, most + 256, Check.MAX - 1, Check.MAX}) {
                Check.due(call + " with " + v, ask.applyAsLong(v), refusal);
            }
        }
    }

    /** Three pages: 12 of book 0 with weight 3, rows, links and an unsure letter, 99 and 0 of book 3; three deeds more. */
    private static PageRounds three() {
        PageRounds x = new PageRounds();
        x.packet(0, 0, Check.head(12, 7, 0));
        x.packet(0, 1, 0x01234567L);
        Check.octets(x, Check.tenOctets(0, 5, 1, 2, 4, 8, 16, 32, 64, Check.spoiled(90)));
        x.packet(0, 6, Check.links(12, 13, 0, 99));
        x.weight(0, 3);
        x.packet(3, 0, Check.head(99, 0, 0));
        x.packet(3, 0, Check.head(0, 0, 0));
        return x;
    }

    private static void codesAndOctets() {
        bounds("coded(v)", v -> three().coded(v), 0, 21, 15, 234, Check.OUTSIDE);
        bounds("read(octet)", v -> three().read(v), 0, 1, 255, 14, Check.OUTSIDE);
        bounds("octet(v)", v -> three().octet(v), 0, 1, 255, 1, Check.OUTSIDE);
    }

    private static void packets() {
        bounds("packet(book, 0, 0)", book -> three().packet(book, 0, 0), 0, 1, 3, 1, Check.OUTSIDE);
        bounds("packet(0, kind, 0)", kind -> three().packet(0, kind, 0), 0, 1, 7, 1, Check.OUTSIDE);
        for (long eight : new long[] {0, 1, Integer.MAX_VALUE, 0xFFFFFFFFL, 0x100000000L, Long.MAX_VALUE - 1, Long.MAX_VALUE}) {
            Check.due("packet(0, 7, " + eight + ")", three().packet(0, 7, eight), 1);
        }
        for (long eight : new long[] {-1, -2, Integer.MIN_VALUE, -0x100000000L, Long.MIN_VALUE + 1, Long.MIN_VALUE}) {
            for (int kind = 0; kind < 8; kind++) {
                Check.due("packet(0, " + kind + ", " + eight + ")", three().packet(0, kind, eight), Check.OUTSIDE);
            }
        }
        Check.due("a HEAD of the greatest eight has figures 15: LOST", three().packet(0, 0, Long.MAX_VALUE), 0);
        Check.due("a ROW of the greatest eight", three().packet(0, 1, Long.MAX_VALUE), 1);
        Check.due("BOOK 3, that was OPEN", three().packet(3, 5, 0), 1);
        Check.due("BOOK 2, that was not", three().packet(2, 5, 0), 0);
    }

    private static void asked() {
        bounds("told(what)", what -> three().told(what), 0, 3, 7, 7, Check.OUTSIDE);
        bounds("open(book)", book -> three().open(book), 0, 0, 3, 2, Check.UNKNOWN);
    }

    private static void pages() {
        bounds("page(k, 1)", k -> three().page(k, 1), 0, 12, 2, 0, Check.UNKNOWN);
        bounds("page(0, what)", what -> three().page(0, what), 0, 0, 8, 1, Check.OUTSIDE);
        bounds("page(2, what)", what -> three().page(2, what), 0, 3, 8, 0, Check.OUTSIDE);
        bounds("far(k, 2)", k -> three().far(k, 2), 0, Check.NONE, 2, 0, Check.UNKNOWN);
        bounds("far(2, other)", other -> three().far(2, other), 0, Check.NONE, 2, 0, Check.UNKNOWN);
    }

    private static void placesAndLinks() {
        bounds("letter(k, 0, 0)", k -> three().letter(k, 0, 0), 0, 64, 2, Check.NONE, Check.UNKNOWN);
        bounds("letter(0, row, 7)", row -> three().letter(0, row, 7), 0, 71, 4, 128 + 90, Check.OUTSIDE);
        bounds("letter(0, 4, i)", i -> three().letter(0, 4, i), 0, 1, 7, 128 + 90, Check.OUTSIDE);
        bounds("letter(2, 4, i)", i -> three().letter(2, 4, i), 0, Check.NONE, 7, Check.NONE, Check.OUTSIDE);
        bounds("link(k, 0)", k -> three().link(k, 0), 0, 12, 2, Check.NONE, Check.UNKNOWN);
        bounds("link(0, j)", j -> three().link(0, j), 0, 12, 3, 99, Check.OUTSIDE);
        bounds("link(2, j)", j -> three().link(2, j), 0, Check.NONE, 3, Check.NONE, Check.OUTSIDE);
    }

    /** The promise names NONE alone: numbers that no BOOK, NUMBER, PART can have are those of no PAGE. */
    private static void findHasNoRefusals() {
        bounds("find(book, 12, 7)", book -> three().find(book, 12, 7), 0, 0, 3, Check.NONE, Check.NONE);
        bounds("find(3, number, 0)", number -> three().find(3, number, 0), 0, 2, 99, 1, Check.NONE);
        bounds("find(3, 99, part)", part -> three().find(3, 99, part), 0, 1, 7, Check.NONE, Check.NONE);
        bounds("find(0, 12, part)", part -> three().find(0, 12, part), 0, Check.NONE, 7, 0, Check.NONE);
    }

    private static void deeds() {
        bounds("weight(k, 5)", k -> three().weight(k, 5), 0, 3, 2, 1, Check.UNKNOWN);
        bounds("weight(0, v)", v -> three().weight(0, v), 1, 3, 9, 3, Check.OUTSIDE);
        bounds("drop(k)", k -> three().drop(k), 0, 2, 2, 2, Check.UNKNOWN);
        bounds("drift(n)", n -> drifted(n), 1, 1, 16, 16, Check.OUTSIDE);
        bounds("undo(n)", n -> ofSixteen(n), 1, 15, 16, 0, Check.OUTSIDE);
    }

    /** How many packets came by a drift, or its refusal. */
    private static int drifted(int n) {
        PageRounds x = new PageRounds();
        int answer = x.drift(n);
        return answer < Check.NONE ? answer : x.told(1);
    }

    private static int ofSixteen(int n) {
        PageRounds x = new PageRounds();
        x.drift(16);
        return x.undo(n);
    }

    private static void sentRound() {
        bounds("sent(rule, 0)", rule -> three().sent(rule, 0), 0, 0, 3, 1, Check.OUTSIDE);
        bounds("sent(0, i)", i -> three().sent(0, i), 0, 0, 59, 2, Check.OUTSIDE);
        bounds("waits(k, 0, 3)", k -> three().waits(k, 0, 3), 0, 4, 2, 6, Check.UNKNOWN);
        bounds("waits(0, rule, 1)", rule -> three().waits(0, rule, 1), 0, 4, 3, 1, Check.OUTSIDE);
        bounds("waits(1, 0, n)", n -> three().waits(1, 0, n), 1, 4, 60, 6, Check.OUTSIDE);
        // By 1: rules 0, 1 send page 0, so 3 times 4; rules 2, 3 send page 1: 3 times 1. By 60: rule 0 waits 3 times 6; rule 1
        // sends 0, 1, 0, 2 again and again: 3 times 5, 1 times 10; rule 2 sends 1, 2, 0 first: 3 times 6; rule 3 waits longer.
        bounds("bestRule(n)", n -> three().bestRule(n), 1, 2, 60, 1, Check.OUTSIDE);
    }

    private static void theBook() {
        bounds("write(k, 0, 0, 0)", k -> three().write(k, 0, 0, 0), 0, 1, 2, 1, Check.UNKNOWN);
        bounds("write(0, row, 0, 0)", row -> three().write(0, row, 0, 0), 0, 1, 4, 1, Check.OUTSIDE);
        bounds("write(0, 0, i, 0)", i -> three().write(0, 0, i, 0), 0, 1, 7, 1, Check.OUTSIDE);
        bounds("write(0, 0, 0, letter)", letter -> three().write(0, 0, 0, letter), 0, 1, 127, 1, Check.OUTSIDE);
    }

    private static void seedsAndImages() {
        bounds("seed(v)", v -> three().seed(v), 0, 0, Check.MAX, 0, Check.OUTSIDE);
        bounds("keep(i)", i -> three().keep(i), 0, 1, 1, 1, Check.UNKNOWN);
        bounds("goBack(i)", i -> backTo(i), 0, 1, 1, 1, Check.UNKNOWN);
        bounds("goBack(i), none kept", i -> three().goBack(i), 0, Check.NOT, 1, Check.NOT, Check.UNKNOWN);
    }

    private static int backTo(int i) {
        PageRounds x = three();
        x.keep(0);
        x.keep(1);
        return x.goBack(i);
    }

    /** Page 9 is the last that there can be; no call knows page 10. */
    private static void pagesOfAFullOne() {
        bounds("page(k, 1) of ten", k -> ten().page(k, 1), 0, 0, 9, 9, Check.UNKNOWN);
        bounds("letter(k, 0, 0) of ten", k -> ten().letter(k, 0, 0), 0, 64, 9, 64, Check.UNKNOWN);
        bounds("link(k, 0) of ten", k -> ten().link(k, 0), 0, 1, 9, 10, Check.UNKNOWN);
        bounds("far(k, 9) of ten", k -> ten().far(k, 9), 0, 9, 9, 0, Check.UNKNOWN);
        bounds("far(0, other) of ten", other -> ten().far(0, other), 0, 0, 9, 9, Check.UNKNOWN);
        bounds("weight(k, 9) of ten", k -> ten().weight(k, 9), 0, 1, 9, 1, Check.UNKNOWN);
        bounds("drop(k) of ten", k -> ten().drop(k), 0, 9, 9, 9, Check.UNKNOWN);
        bounds("waits(k, 0, 10) of ten", k -> ten().waits(k, 0, 10), 0, 27, 9, 30, Check.UNKNOWN);
        bounds("write(k, 4, 7, 127) of ten", k -> ten().write(k, 4, 7, 127), 0, 1, 9, 1, Check.UNKNOWN);
    }

    /** Ten pages of book 2, each with a row and a link to the next. */
    private static PageRounds ten() {
        PageRounds x = new PageRounds();
        for (int number = 0; number < 10; number++) {
            x.packet(2, 0, Check.head(number, 0, 0));
            x.packet(2, 1, 0);
            x.packet(2, 6, Check.links(number + 1, -1, -1, -1));
        }
        return x;
    }
}
