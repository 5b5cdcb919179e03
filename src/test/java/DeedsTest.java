/** Promises 13 to 16. */
public final class DeedsTest {
    private static final int[] NO_PAGES = {-1, 4, 10, Check.MIN, Check.MAX};

    public static void main(String[] args) {
        weights();
        drops();
        drifts();
        driftsByTheWords();
        undoEveryDeed();
        undoSixteen();
        undoRefused();
        whatUndoLeaves();
        undoneHeadsAreForgotten();
        Check.end();
    }

    private static PageRounds fourPages() {
        PageRounds x = new PageRounds();
        for (int book = 0; book < 4; book++) {
            x.packet(book, 0, Check.head(10 + book, 0, 0));
        }
        return x;
    }

    private static void weights() {
        PageRounds x = fourPages();
        Check.due("it was 1", x.weight(2, 9), 1);
        Check.due("it was 9", x.weight(2, 1), 9);
        Check.due("it was 1", x.weight(2, 4), 1);
        Check.due("page(2, 4)", x.page(2, 4), 4);
        Check.due("page(1, 4)", x.page(1, 4), 1);
        Check.due("deeds", x.told(7), 7);
        for (int v : new int[] {0, 10, -1, Check.MIN, Check.MAX}) {
            Check.due("weight " + v, x.weight(2, v), Check.OUTSIDE);
        }
        for (int k : NO_PAGES) {
            Check.due("page " + k, x.weight(k, 3), Check.UNKNOWN);
            Check.due("unknown goes ahead of outside", x.weight(k, 0), Check.UNKNOWN);
        }
        Check.due("refused: nothing changed", x.page(2, 4), 4);
        Check.due("refused: no deeds", x.told(7), 7);
        x.weight(2, 4);
        Check.due("the same weight is a deed", x.told(7), 8);
    }

    private static void drops() {
        PageRounds x = fourPages();
        x.packet(3, 1, 0x11111111);
        x.weight(3, 6);
        Check.due("three are left", x.drop(1), 3);
        int[] open = {0, Check.NONE, 1, 2};
        for (int book = 0; book < 4; book++) {
            Check.due("open(" + book + ")", x.open(book), open[book]);
        }
        Check.due("page 3 is 2 now", x.page(2, 1), 13);
        Check.due("with its letters", x.letter(2, 0, 7), 65);
        Check.due("with its weight", x.page(2, 4), 6);
        Check.due("page 3 is gone", x.page(3, 0), Check.UNKNOWN);
        Check.due("a row for the closed book", x.packet(1, 1, 0), 0);
        Check.due("two are left", x.drop(2), 2);
        Check.due("open(3)", x.open(3), Check.NONE);
        Check.due("one is left", x.drop(0), 1);
        Check.due("none is left", x.drop(0), 0);
        Check.due("open(2)", x.open(2), Check.NONE);
        Check.due("nothing to drop", x.drop(0), Check.UNKNOWN);
        for (int k : NO_PAGES) {
            Check.due("drop(" + k + ")", fourPages().drop(k), Check.UNKNOWN);
        }
        Check.due("packets that came stay counted", x.told(1), 6);
        x.packet(3, 0, Check.head(13, 0, 0));
        Check.due("one that was dropped is as new", x.page(0, 5), 1);
        Check.due("its weight", x.page(0, 4), 1);
        Check.due("its heads", x.page(0, 3), 1);
    }

    private static void drifts() {
        PageRounds x = new PageRounds();
        for (int n : new int[] {0, 17, -1, Check.MIN, Check.MAX}) {
            Check.due("drift(" + n + ")", x.drift(n), Check.OUTSIDE);
        }
        Check.due("no seed was drawn", x.seed(389), 0);
        Check.due("nothing came", x.told(1), 0);
        Check.due("pages", x.drift(16), 3);
        Check.due("packets", x.told(1), 16);
        Check.due("deeds", x.told(7), 16);
        Check.due("one more", x.drift(1), 3);
        Check.due("packets", x.told(1), 17);
    }

    /** The seed behind a packet by draws: eleven draws. */
    private static void driftsByTheWords() {
        PageRounds x = new PageRounds(), same = new PageRounds();
        long seed = 2147483647L;
        x.seed((int) seed);
        for (int n = 0; n < 30; n++) {
            int[] draws = new int[11];
            int[] of = {4, 8, 10, 10, 10, 10, 10, 10, 10, 10, 80};
            for (int i = 0; i < 11; i++) {
                seed = (seed * 1103515245L + 12345L) % (1L << 31);
                draws[i] = (int) (seed / 65536 % of[i]);
            }
            int[] ten = new int[10];
            for (int i = 0; i < 10; i++) {
                boolean isCoded = i < 2 || draws[1] == 0 || draws[1] == 6;
                ten[i] = isCoded ? Check.coded(draws[i]) : Check.well(64 + draws[i]);
            }
            ten[draws[10] / 8] ^= 1 << draws[10] % 8;
            Check.octets(same, ten);
            Check.due("pages", x.drift(1), same.told(0));
            for (int what = 1; what < 4; what++) {
                Check.due("told(" + what + ")", x.told(what), same.told(what));
            }
        }
        for (int k = 0; k < same.told(0); k++) {
            for (int what = 0; what < 9; what++) {
                Check.due("page(" + k + ", " + what + ")", x.page(k, what), same.page(k, what));
            }
        }
        Check.due("the seed", x.seed(0), seed);
    }

    private static void undoEveryDeed() {
        PageRounds x = fourPages();
        Check.octets(x, Check.codedOctets(0, 6, 9, 9, 1, 1, 1, 1, 1, 1));
        Check.due("undo an octet's packet", x.undo(1), 4);
        Check.due("its links are gone", x.link(0, 0), Check.NONE);
        Check.due("four can be undone", x.told(7), 4);
        x.packet(1, 0, Check.head(10, 12, 0));
        Check.due("closed", x.open(1), Check.NONE);
        Check.due("undo a lost head", x.undo(1), 4);
        Check.due("open again", x.open(1), 1);
        Check.due("not lost", x.told(2), 0);
        x.weight(3, 8);
        Check.due("undo a weight", x.undo(1), 4);
        Check.due("weight", x.page(3, 4), 1);
        x.drop(0);
        Check.due("undo a drop", x.undo(1), 4);
        Check.due("four pages", x.told(0), 4);
        Check.due("open(0)", x.open(0), 0);
        Check.due("open(3)", x.open(3), 3);
        x.seed(389);
        x.drift(5);
        Check.due("nine deeds", x.told(7), 9);
        Check.due("undo three of five draws", x.undo(3), 6);
        Check.due("six deeds", x.told(7), 6);
        Check.due("undo the others and a head", x.undo(3), 3);
        Check.due("three pages", x.told(0), 3);
        Check.due("open(3)", x.open(3), Check.NONE);
        Check.due("mended", x.told(3), 0);
    }

    private static void undoSixteen() {
        PageRounds x = new PageRounds();
        for (int i = 0; i < 20; i++) {
            x.packet(0, 7, 0);
            Check.due("deeds", x.told(7), Math.min(i + 1, 16));
        }
        Check.due("all sixteen", x.undo(16), 4);
        Check.due("none is left", x.told(7), 0);
        Check.due("not one more", x.undo(1), Check.NOT);
        x.packet(0, 0, 0);
        Check.due("the next is a deed again", x.undo(1), 4);
        Check.due("no page", x.told(0), 0);
    }

    private static void undoRefused() {
        PageRounds x = fourPages();
        for (int n : new int[] {0, 17, -1, Check.MIN, Check.MAX}) {
            Check.due("undo(" + n + ")", x.undo(n), Check.OUTSIDE);
        }
        Check.due("not five", x.undo(5), Check.NOT);
        Check.due("not sixteen", x.undo(16), Check.NOT);
        Check.due("nothing changed", x.told(1), 4);
        Check.due("nor what can be undone", x.told(7), 4);
        Check.due("four", x.undo(4), 0);
    }

    private static void whatUndoLeaves() {
        PageRounds x = fourPages();
        x.write(0, 0, 0, 65);
        x.seed(77);
        Check.octets(x, 1, 2, 3);
        x.drift(1);
        int seed = x.seed(0);
        Check.octets(x, 4);
        x.undo(2);
        Check.due("the seed is what it was set to", x.seed(seed), 0);
        Check.due("octets stay", x.told(4), 4);
        Check.due("the book of letters stays", x.told(5), 1);
        x.drift(1);
        x.undo(1);
        Check.holds("the draws stay drawn", x.seed(0) != seed);
        Check.octets(x, 5, 6, 7, 8, 9, 10);
        Check.due("a packet was whole", x.told(4), 0);
        x.undo(1);
        Check.due("its octets do not come again", x.told(4), 0);
    }

    private static void undoneHeadsAreForgotten() {
        PageRounds x = new PageRounds();
        for (int number = 0; number < 10; number++) {
            x.packet(0, 0, Check.head(number, 0, 0));
        }
        x.packet(0, 0, Check.head(0, 0, 0));
        x.undo(1);
        Check.due("its head came once", x.page(0, 3), 1);
        Check.due("open(0)", x.open(0), 9);
        x.packet(0, 0, Check.head(77, 0, 0));
        Check.due("number 0 goes all the same", x.find(0, 0, 0), Check.NONE);
        x.undo(1);
        Check.due("it is there again", x.find(0, 0, 0), 0);
        Check.due("77 is not", x.find(0, 77, 0), Check.NONE);
    }
}
