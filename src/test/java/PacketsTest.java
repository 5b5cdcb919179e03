/** Promises 1, 4, 5, 6 and 7. */
public final class PacketsTest {
    public static void main(String[] args) {
        newObject();
        octetsOneByOne();
        octetsRefused();
        packetsWhole();
        packetsRefused();
        figuresOfSixteen();
        lostByBookOrKind();
        lostHeads();
        lostForClosedBooks();
        mendedOctets();
        mendedLinks();
        rowsKeptAndCleared();
        wrongLettersGiveWay();
        linksKept();
        elevenPages();
        longestAgoIsByTheLatestHead();
        toldAndOpenRefused();
        Check.end();
    }

    private static void newObject() {
        PageRounds x = new PageRounds();
        int[] want = {0, 0, 0, 0, 0, 0, Check.NONE, 0};
        for (int what = 0; what < 8; what++) {
            Check.due("new: told(" + what + ")", x.told(what), want[what]);
        }
        for (int book = 0; book < 4; book++) {
            Check.due("new: open(" + book + ")", x.open(book), Check.NONE);
        }
        Check.due("new: page(0, 0)", x.page(0, 0), Check.UNKNOWN);
        Check.due("new: undo(1)", x.undo(1), Check.NOT);
        Check.due("new: seed(5)", x.seed(5), 0);
        Check.due("another new one has a seed of its own", new PageRounds().seed(7), 0);
        Check.due("NONE", PageRounds.NONE, -1);
        Check.due("UNKNOWN", PageRounds.UNKNOWN, -1000000001);
        Check.due("OUTSIDE", PageRounds.OUTSIDE, -1000000002);
        Check.due("NOT", PageRounds.NOT, -1000000003);
        Check.due("FULL", PageRounds.FULL, -1000000004);
    }

    private static void octetsOneByOne() {
        PageRounds x = new PageRounds();
        int[] head = Check.codedOctets(2, 0, 4, 3, 5, 0, 0, 0, 0, 0);
        for (int i = 0; i < 9; i++) {
            Check.due("octet " + i, x.octet(head[i]), i + 1);
            Check.due("told(4) behind octet " + i, x.told(4), i + 1);
            Check.due("no packet yet", x.told(1), 0);
        }
        Check.due("the tenth", x.octet(head[9]), 0);
        Check.due("told(4) behind the tenth", x.told(4), 0);
        Check.due("a packet came", x.told(1), 1);
        Check.due("it opened its page", x.open(2), 0);
        Check.due("its number", x.page(0, 1), 34);
        Check.due("its part", x.page(0, 2), 5);
        Check.due("a deed", x.told(7), 1);
        Check.due("three of the next", Check.octets(x, 1, 2, 3), 3);
        Check.due("a whole packet between", x.packet(2, 1, 0), 1);
        Check.due("a drift between", x.drift(1), x.told(0));
        Check.due("three are still there", x.told(4), 3);
        Check.due("the fourth", x.octet(4), 4);
    }

    private static void octetsRefused() {
        PageRounds x = new PageRounds();
        Check.octets(x, 0, 255);
        for (int v : new int[] {-1, 256, 1000, Check.MIN, Check.MAX}) {
            Check.due("octet(" + v + ")", x.octet(v), Check.OUTSIDE);
        }
        Check.due("nothing changed", x.told(4), 2);
    }

    private static void packetsWhole() {
        PageRounds x = new PageRounds();
        for (int book = 0; book < 4; book++) {
            Check.due("head", x.packet(book, 0, Check.head(10 * book + 7, 7 - book, 14)), 1);
            Check.due("open(" + book + ")", x.open(book), book);
            Check.due("number", x.page(book, 1), 10 * book + 7);
            Check.due("part", x.page(book, 2), 7 - book);
        }
        for (int kind = 1; kind < 6; kind++) {
            Check.due("row", x.packet(3, kind, 0x01234567L), 1);
            for (int i = 0; i < 8; i++) {
                Check.due("letter", x.letter(3, kind - 1, i), 64 + i);
            }
        }
        Check.due("nothing", x.packet(3, 7, 0x01234567L), 1);
        Check.due("lost", x.told(2), 0);
        Check.due("came", x.told(1), 10);
        Check.due("mended", x.told(3), 0);
        Check.due("deeds", x.told(7), 10);
        Check.due("figures 8 and on", x.packet(3, 1, 0x89ABCDEFL), 1);
        for (int i = 0; i < 8; i++) {
            Check.due("letter", x.letter(3, 0, i), 72 + i);
        }
        Check.due("all are sure", x.page(3, 7), 40);
    }

    private static void packetsRefused() {
        PageRounds x = new PageRounds();
        for (int bad : new int[] {-1, 4, Check.MIN, Check.MAX}) {
            Check.due("BOOK " + bad, x.packet(bad, 0, 0), Check.OUTSIDE);
        }
        for (int bad : new int[] {-1, 8, Check.MIN, Check.MAX}) {
            Check.due("KIND " + bad, x.packet(0, bad, 0), Check.OUTSIDE);
        }
        for (long bad : new long[] {-1, Long.MIN_VALUE, Integer.MIN_VALUE}) {
            Check.due("eight " + bad, x.packet(0, 0, bad), Check.OUTSIDE);
        }
        Check.due("no page", x.told(0), 0);
        Check.due("none came", x.told(1), 0);
        Check.due("no deed", x.told(7), 0);
        Check.due("the greatest eight", x.packet(0, 7, Long.MAX_VALUE), 1);
    }

    private static void figuresOfSixteen() {
        PageRounds x = new PageRounds();
        x.packet(1, 0, 0x7ABCDEF0_12340000L);
        Check.due("the last eight figures tell: number", x.page(0, 1), 21);
        Check.due("part", x.page(0, 2), 3);
        x.packet(1, 6, 0x12345678_90000099L);
        Check.due("link 0", x.link(0, 0), 9);
        Check.due("link 3", x.link(0, 3), 99);
    }

    private static void lostByBookOrKind() {
        PageRounds x = new PageRounds();
        x.packet(0, 0, 0);
        int[][] lost = {Check.codedOctets(4, 7, 0, 0, 0, 0, 0, 0, 0, 0), Check.codedOctets(15, 0, 0, 0, 0, 0, 0, 0, 0, 0),
            Check.codedOctets(0, 8, 0, 0, 0, 0, 0, 0, 0, 0), Check.codedOctets(0, 15, 0, 0, 0, 0, 0, 0, 0, 0)};
        for (int[] ten : lost) {
            Check.octets(x, ten);
        }
        int[] unread = Check.codedOctets(0, 7, 0, 0, 0, 0, 0, 0, 0, 0);
        unread[1] ^= 3;
        Check.octets(x, unread);
        Check.due("lost", x.told(2), 5);
        Check.due("came", x.told(1), 6);
        Check.due("the book stays open", x.open(0), 0);
        Check.due("one page", x.told(0), 1);
        Check.due("lost ones are deeds", x.told(7), 6);
        Check.octets(x, Check.codedOctets(3, 7, 0, 0, 0, 0, 0, 0, 0, 0));
        Check.due("kind 7 is not lost, open or not", x.told(2), 5);
    }

    private static void lostHeads() {
        long[] lost = {Check.figures(10, 0, 0, 0, 0, 0, 0, 0), Check.figures(0, 10, 0, 0, 0, 0, 0, 0), Check.figures(0, 0, 8, 0, 0, 0, 0, 0)};
        for (long eight : lost) {
            PageRounds x = new PageRounds();
            x.packet(1, 0, 0);
            x.packet(2, 0, 0);
            Check.due("a lost head", x.packet(1, 0, eight), 0);
            Check.due("lost", x.told(2), 1);
            Check.due("its book is closed", x.open(1), Check.NONE);
            Check.due("the other is not", x.open(2), 1);
            Check.due("its page stays", x.told(0), 2);
            Check.due("a row for it is lost", x.packet(1, 1, 0), 0);
        }
        PageRounds x = new PageRounds();
        Check.due("9, 9, 7, 15 are read", x.packet(0, 0, Check.figures(9, 9, 7, 15, 15, 15, 15, 15)), 1);
        Check.due("number 99", x.page(0, 1), 99);
        int[] flags = Check.codedOctets(0, 0, 9, 9, 7, 0, 0, 0, 0, 0);
        flags[5] ^= 0x30;
        Check.octets(x, flags);
        Check.due("flags that are not read", x.open(0), Check.NONE);
        Check.due("lost", x.told(2), 1);
        Check.due("its head is not counted", x.page(0, 3), 1);
        int[] rest = Check.codedOctets(0, 0, 9, 9, 7, 0, 0, 0, 0, 0);
        for (int i = 6; i < 10; i++) {
            rest[i] = 0xFC ^ i;
        }
        Check.octets(x, rest);
        Check.due("6 to 9 have no say", x.open(0), 0);
        Check.due("its head came twice", x.page(0, 3), 2);
        Check.due("6 to 9 are not counted", x.told(3), 0);
    }

    private static void lostForClosedBooks() {
        PageRounds x = new PageRounds();
        x.packet(0, 0, 0);
        for (int kind = 1; kind < 7; kind++) {
            Check.due("kind " + kind + " for a closed book", x.packet(1, kind, 0), 0);
        }
        Check.due("kind 7", x.packet(1, 7, 0), 1);
        Check.due("lost", x.told(2), 6);
        Check.due("the open page is as it was", x.page(0, 5), 1);
    }

    private static void mendedOctets() {
        PageRounds x = new PageRounds();
        int[] head = Check.codedOctets(1, 0, 1, 2, 3, 0, 0, 0, 0, 0);
        for (int i = 0; i < 10; i++) {
            head[i] ^= 1 << i % 8;
        }
        Check.octets(x, head);
        Check.due("book, kind and 2 to 5", x.told(3), 6);
        Check.due("they are mended", x.find(1, 21, 3), 0);
        int[] wrongPart = Check.codedOctets(1, 0, 12, 2, 9, 0, 0, 0, 0, 0);
        wrongPart[2] ^= 1;
        wrongPart[4] ^= 2;
        wrongPart[5] ^= 4;
        Check.octets(x, wrongPart);
        Check.due("all four of a lost head", x.told(3), 9);
        Check.due("it is lost", x.told(2), 1);
        int[] wrongBook = Check.codedOctets(9, 0, 0, 0, 0, 0, 0, 0, 0, 0);
        wrongBook[0] ^= 128;
        wrongBook[1] ^= 1;
        wrongBook[2] ^= 1;
        Check.octets(x, wrongBook);
        Check.due("just book and kind of one without a book", x.told(3), 11);
        int[] wrongKind = Check.codedOctets(1, 9, 0, 0, 0, 0, 0, 0, 0, 0);
        wrongKind[1] ^= 8;
        wrongKind[2] ^= 8;
        Check.octets(x, wrongKind);
        Check.due("just kind", x.told(3), 12);
        int[] row = Check.tenOctets(1, 1, 2, 2, 2, 2, 2, 2, 2, 2);
        row[0] ^= 64;
        Check.octets(x, row);
        Check.due("a row's letters are no mended octets", x.told(3), 13);
        int[] nothing = Check.codedOctets(3, 7, 0, 0, 0, 0, 0, 0, 0, 0);
        nothing[1] ^= 64;
        nothing[5] ^= 64;
        Check.octets(x, nothing);
        Check.due("kind 7", x.told(3), 14);
        int[] unread = Check.codedOctets(1, 0, 1, 2, 3, 0, 0, 0, 0, 0);
        unread[3] ^= 6;
        Check.octets(x, unread);
        Check.due("two wrong bits are none mended", x.told(3), 14);
    }

    private static void mendedLinks() {
        PageRounds x = new PageRounds();
        int[] links = Check.codedOctets(2, 6, 1, 0, 2, 0, 3, 0, 4, 15);
        for (int i = 2; i < 10; i++) {
            links[i] ^= 1 << i - 2;
        }
        Check.octets(x, links);
        Check.due("links for a closed book", x.told(3), 0);
        Check.due("they are lost", x.told(2), 1);
        x.packet(2, 0, 0);
        Check.octets(x, links);
        Check.due("all eight, also of a link that is none", x.told(3), 8);
        Check.due("mended link 0", x.link(0, 0), 1);
        Check.due("mended link 2", x.link(0, 2), 3);
        Check.due("link 3 is none", x.link(0, 3), Check.NONE);
    }

    private static void rowsKeptAndCleared() {
        PageRounds x = new PageRounds();
        x.packet(0, 0, Check.head(5, 0, 0));
        x.packet(0, 1, 0);
        x.packet(0, 6, Check.links(1, 2, 3, 4));
        x.weight(0, 7);
        x.packet(0, 0, Check.head(6, 0, 0));
        x.packet(0, 2, 0);
        for (int flags : new int[] {0, 2, 4, 8, 14}) {
            x.packet(0, 0, Check.head(5, 0, flags));
            Check.due("rows are kept", x.page(0, 6), 30);
            Check.due("links are kept", x.link(0, 1), 2);
        }
        Check.due("its head came so often", x.page(0, 3), 6);
        x.packet(0, 0, Check.head(5, 0, 15));
        Check.due("cleared", x.page(0, 6), 31);
        for (int j = 0; j < 4; j++) {
            Check.due("links are cleared", x.link(0, j), Check.NONE);
        }
        Check.due("length", x.page(0, 5), 1);
        Check.due("the weight stays", x.page(0, 4), 7);
        Check.due("another page is not cleared", x.page(1, 6), 29);
        Check.due("open again", x.open(0), 0);
        x.packet(0, 0, Check.head(6, 0, 1));
        Check.due("cleared by flag 1", x.page(1, 6), 31);
    }

    private static void wrongLettersGiveWay() {
        PageRounds x = new PageRounds();
        x.packet(3, 0, 0);
        int well = Check.well(65), other = Check.well(66), bad = Check.spoiled(67), worse = Check.spoiled(68);
        Check.octets(x, Check.tenOctets(3, 5, well, bad, bad, well, well, bad, 128, 0));
        Check.due("well", x.letter(0, 4, 0), 65);
        Check.due("spoiled", x.letter(0, 4, 1), 128 + 67);
        Check.due("128 is well", x.letter(0, 4, 6), 0);
        Check.due("0 is not", x.letter(0, 4, 7), 128);
        Check.due("sure ones", x.page(0, 7), 4);
        Check.octets(x, Check.tenOctets(3, 5, worse, worse, other, other, bad, bad, 0, 255));
        Check.due("sure stays", x.letter(0, 4, 0), 65);
        Check.due("unsure gives way to unsure", x.letter(0, 4, 1), 128 + 68);
        Check.due("unsure gives way to sure", x.letter(0, 4, 2), 66);
        Check.due("sure gives way to sure", x.letter(0, 4, 3), 66);
        Check.due("sure stays", x.letter(0, 4, 4), 65);
        Check.due("unsure as before", x.letter(0, 4, 5), 128 + 67);
        Check.due("sure 0 stays", x.letter(0, 4, 6), 0);
        Check.due("255 is unsure 127", x.letter(0, 4, 7), 255);
        Check.due("sure ones", x.page(0, 7), 5);
        Check.due("other rows are none", x.page(0, 6), 15);
    }

    private static void linksKept() {
        PageRounds x = new PageRounds();
        x.packet(1, 0, 0);
        x.packet(1, 6, Check.links(10, 21, 32, 43));
        x.packet(1, 6, Check.figures(10, 1, 1, 10, 15, 15, 9, 9));
        Check.due("units 10: none", x.link(0, 0), 10);
        Check.due("tens 10: none", x.link(0, 1), 21);
        Check.due("none leaves what there is", x.link(0, 2), 32);
        Check.due("another takes its place", x.link(0, 3), 99);
    }

    private static void elevenPages() {
        PageRounds x = new PageRounds();
        for (int number = 0; number < 10; number++) {
            x.packet(number == 0 ? 1 : 2, 0, Check.head(number, 0, 0));
        }
        Check.due("ten", x.told(0), 10);
        Check.due("open(1)", x.open(1), 0);
        Check.due("open(2)", x.open(2), 9);
        x.weight(1, 5);
        x.packet(3, 0, Check.head(10, 0, 0));
        Check.due("still ten", x.told(0), 10);
        Check.due("the first went", x.find(1, 0, 0), Check.NONE);
        Check.due("its book is closed", x.open(1), Check.NONE);
        Check.due("the others have one number less", x.open(2), 8);
        Check.due("the new one is behind", x.open(3), 9);
        Check.due("what they had goes with them", x.page(0, 4), 5);
        Check.due("the new one has weight 1", x.page(9, 4), 1);
        Check.due("and nothing else", x.page(9, 5), 1);
        x.packet(1, 0, Check.head(0, 0, 0));
        Check.due("one that went comes behind", x.open(1), 9);
        Check.due("as new", x.page(9, 3), 1);
    }

    private static void longestAgoIsByTheLatestHead() {
        PageRounds x = new PageRounds();
        for (int part = 0; part < 8; part++) {
            x.packet(0, 0, Check.head(50, part, 0));
        }
        x.packet(0, 0, Check.head(51, 0, 0));
        x.packet(0, 0, Check.head(52, 0, 0));
        x.packet(0, 0, Check.head(50, 0, 0));
        x.packet(0, 1, 0);
        x.packet(0, 0, Check.head(50, 2, 0));
        x.packet(1, 0, Check.head(50, 1, 0));
        Check.due("part 1 goes first", x.find(0, 50, 1), Check.NONE);
        Check.due("part 0 stays, its head came again", x.find(0, 50, 0), 0);
        x.packet(1, 0, Check.head(53, 1, 0));
        Check.due("then part 3", x.find(0, 50, 3), Check.NONE);
        Check.due("not part 2", x.find(0, 50, 2), 1);
        Check.due("open(0)", x.open(0), 1);
    }

    private static void toldAndOpenRefused() {
        PageRounds x = new PageRounds();
        x.packet(0, 0, 0);
        for (int bad : new int[] {-1, 8, Check.MIN, Check.MAX}) {
            Check.due("told(" + bad + ")", x.told(bad), Check.OUTSIDE);
        }
        for (int bad : new int[] {-1, 4, Check.MIN, Check.MAX}) {
            Check.due("open(" + bad + ")", x.open(bad), Check.UNKNOWN);
        }
    }
}
