/** Promises 8 to 12. */
public final class PagesTest {
    private static final int[] NO_PAGES = {-1, 2, 10, 1000, Check.MIN, Check.MAX};

    public static void main(String[] args) {
        whatPagesAre();
        lacksSureLength();
        linkedByBookAndNumber();
        letters();
        linksAsked();
        farByLinks();
        farOverTenPages();
        findOne();
        Check.end();
    }

    private static PageRounds twoPages() {
        PageRounds x = new PageRounds();
        x.packet(3, 0, Check.head(87, 6, 0));
        x.packet(1, 0, Check.head(4, 0, 0));
        return x;
    }

    private static void whatPagesAre() {
        PageRounds x = twoPages();
        x.packet(3, 0, Check.head(87, 6, 0));
        x.weight(0, 9);
        int[] first = {3, 87, 6, 2, 9, 1, 31, 0, 0}, second = {1, 4, 0, 1, 1, 1, 31, 0, 0};
        for (int what = 0; what < 9; what++) {
            Check.due("page(0, " + what + ")", x.page(0, what), first[what]);
            Check.due("page(1, " + what + ")", x.page(1, what), second[what]);
        }
        for (int k : NO_PAGES) {
            Check.due("page(" + k + ", 0)", x.page(k, 0), Check.UNKNOWN);
            Check.due("unknown goes ahead of outside", x.page(k, 9), Check.UNKNOWN);
        }
        for (int what : new int[] {-1, 9, Check.MIN, Check.MAX}) {
            Check.due("page(0, " + what + ")", x.page(0, what), Check.OUTSIDE);
        }
        Check.due("asking is no deed", x.told(7), 4);
    }

    private static void lacksSureLength() {
        PageRounds x = twoPages();
        int lacks = 31;
        for (int kind : new int[] {4, 1, 5, 3, 2}) {
            int only = Check.spoiled(7);
            Check.octets(x, Check.tenOctets(3, kind, only, only, only, only, only, only, only, only));
            lacks -= 1 << kind - 1;
            Check.due("lacks", x.page(0, 6), lacks);
            Check.due("length", x.page(0, 5), 1 + 5 - Integer.bitCount(lacks));
            Check.due("none is sure", x.page(0, 7), 0);
        }
        x.packet(3, 6, Check.links(-1, -1, -1, -1));
        Check.due("links that are none", x.page(0, 5), 6);
        x.packet(3, 6, Check.links(-1, -1, -1, 0));
        Check.due("a link", x.page(0, 5), 7);
        x.packet(3, 6, Check.links(1, 2, 3, 4));
        Check.due("four links", x.page(0, 5), 7);
        x.packet(3, 2, 0);
        Check.due("eight are sure", x.page(0, 7), 8);
        Check.due("the other page has nothing", x.page(1, 5), 1);
    }

    private static void linkedByBookAndNumber() {
        PageRounds x = new PageRounds();
        x.packet(0, 0, Check.head(11, 0, 0));
        x.packet(1, 0, Check.head(11, 0, 0));
        x.packet(0, 0, Check.head(11, 7, 0));
        x.packet(0, 0, Check.head(12, 0, 0));
        x.packet(0, 6, Check.links(11, 99, 12, 11));
        Check.due("any part, of its book, itself too", x.page(3, 8), 1 + 4 + 8);
        x.packet(1, 6, Check.links(12, -1, -1, -1));
        Check.due("not in another book", x.page(1, 8), 0);
        x.packet(1, 0, Check.head(12, 3, 0));
        Check.due("a page that comes later", x.page(1, 8), 16);
        Check.due("no links", x.page(0, 8), 0);
        x.drop(0);
        Check.due("one number less", x.page(2, 8), 2 + 4);
    }

    private static void letters() {
        PageRounds x = twoPages();
        Check.octets(x, Check.tenOctets(1, 1, 1, 2, 4, 8, 16, 32, 64, 128));
        Check.octets(x, Check.tenOctets(1, 5, 0, 3, 5, 6, 9, 10, 12, 255));
        int[] first = {1, 2, 4, 8, 16, 32, 64, 0}, last = {128, 131, 133, 134, 137, 138, 140, 255};
        for (int i = 0; i < 8; i++) {
            Check.due("row 0, " + i, x.letter(1, 0, i), first[i]);
            Check.due("row 4, " + i, x.letter(1, 4, i), last[i]);
            Check.due("row 2, " + i, x.letter(1, 2, i), Check.NONE);
        }
        for (int k : NO_PAGES) {
            Check.due("letter(" + k + ", 0, 0)", x.letter(k, 0, 0), Check.UNKNOWN);
            Check.due("unknown goes ahead of outside", x.letter(k, 5, 8), Check.UNKNOWN);
        }
        for (int row : new int[] {-1, 5, Check.MIN, Check.MAX}) {
            Check.due("row " + row, x.letter(1, row, 0), Check.OUTSIDE);
        }
        for (int i : new int[] {-1, 8, Check.MIN, Check.MAX}) {
            Check.due("place " + i, x.letter(1, 0, i), Check.OUTSIDE);
        }
    }

    private static void linksAsked() {
        PageRounds x = twoPages();
        x.packet(1, 6, Check.links(0, 99, -1, 40));
        int[] want = {0, 99, Check.NONE, 40};
        for (int j = 0; j < 4; j++) {
            Check.due("link(1, " + j + ")", x.link(1, j), want[j]);
            Check.due("link(0, " + j + ")", x.link(0, j), Check.NONE);
        }
        for (int k : NO_PAGES) {
            Check.due("link(" + k + ", 0)", x.link(k, 0), Check.UNKNOWN);
            Check.due("unknown goes ahead of outside", x.link(k, 4), Check.UNKNOWN);
        }
        for (int j : new int[] {-1, 4, Check.MIN, Check.MAX}) {
            Check.due("link(1, " + j + ")", x.link(1, j), Check.OUTSIDE);
        }
    }

    private static void farByLinks() {
        PageRounds x = new PageRounds();
        for (int number = 0; number < 5; number++) {
            x.packet(0, 0, Check.head(number, 0, 0));
            x.packet(0, 6, Check.links(number + 1, number == 1 ? 3 : -1, number == 3 ? 0 : -1, -1));
        }
        int[][] want = {{0, 1, 2, 2, 3}, {2, 0, 1, 1, 2}, {2, 3, 0, 1, 2}, {1, 2, 3, 0, 1}, {-1, -1, -1, -1, 0}};
        for (int k = 0; k < 5; k++) {
            for (int other = 0; other < 5; other++) {
                Check.due("far(" + k + ", " + other + ")", x.far(k, other), want[k][other]);
            }
        }
        for (int bad : new int[] {-1, 5, 32, Check.MIN, Check.MAX}) {
            Check.due("far(" + bad + ", 0)", x.far(bad, 0), Check.UNKNOWN);
            Check.due("far(0, " + bad + ")", x.far(0, bad), Check.UNKNOWN);
            Check.due("far(" + bad + ", " + bad + ")", x.far(bad, bad), Check.UNKNOWN);
        }
    }

    private static void farOverTenPages() {
        PageRounds x = new PageRounds();
        for (int number = 0; number < 10; number++) {
            x.packet(2, 0, Check.head(90 - number, 0, 0));
            x.packet(2, 6, Check.links(-1, -1, -1, 89 - number));
        }
        Check.due("nine links", x.far(0, 9), 9);
        Check.due("no way back", x.far(9, 0), Check.NONE);
        x.packet(2, 6, Check.links(90, -1, -1, -1));
        Check.due("round", x.far(9, 8), 9);
    }

    private static void findOne() {
        PageRounds x = twoPages();
        Check.due("find(3, 87, 6)", x.find(3, 87, 6), 0);
        Check.due("find(1, 4, 0)", x.find(1, 4, 0), 1);
        Check.due("another book", x.find(2, 87, 6), Check.NONE);
        Check.due("another number", x.find(3, 86, 6), Check.NONE);
        Check.due("another part", x.find(3, 87, 5), Check.NONE);
        for (int bad : new int[] {-1, 100, Check.MIN, Check.MAX}) {
            Check.due("book " + bad, x.find(bad, 4, 0), Check.NONE);
            Check.due("number " + bad, x.find(1, bad, 0), Check.NONE);
            Check.due("part " + bad, x.find(1, 4, bad), Check.NONE);
        }
    }
}
