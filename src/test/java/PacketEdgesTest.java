/**
 * Part 1 of the terms, sentence by sentence (each is told ahead of its test): the last octet that is read so and the first
 * that is not, what is lost, what is mended, what is kept, which page goes.
 */
public final class PacketEdgesTest {
    public static void main(String[] args) {
        everyOctetAsBook();
        everyOctetAsKind();
        everyOctetInAHead();
        everyOctetBehindAHead();
        everyOctetAsLetter();
        everyOctetInLinks();
        figuresOfWholePackets();
        kindsAndRows();
        lostWhereNothingIsOpen();
        lostHeadsClose();
        lostByBookOrKindClosesNothing();
        mendedInClosedBooks();
        bookPartAndNumberTellPages();
        tenthAndEleventhPage();
        headsOfPagesThatThereAre();
        whoseHeadCameLongestAgo();
        rowsAndLostHeadsAreNoHeads();
        theOneThatGoesIsOpen();
        flagsThatClear();
        clearedLettersMayBeUnsure();
        lengths();
        tenOctetsMakeOne();
        mostMendedOctets();
        mostHeads();
        Check.end();
    }

    /** Book 1 is open with page 0, number 77. */
    private static PageRounds openBook() {
        PageRounds x = new PageRounds();
        x.packet(1, 0, Check.head(77, 0, 0));
        return x;
    }

    private static int[] withOctet(int[] ten, int at, int octet) {
        ten[at] = octet;
        return ten;
    }

    // 0 BOOK (READ 0 .. 3). It is LOST, if BOOK .. is not READ so. MENDED OCTETS are counted: of all PACKETS BOOK ..
    private static void everyOctetAsBook() {
        for (int octet = 0; octet < 256; octet++) {
            PageRounds x = openBook();
            Check.octets(x, withOctet(Check.codedOctets(0, 7, 0, 0, 0, 0, 0, 0, 0, 0), 0, octet));
            boolean isTaken = Check.read(octet) >= 0 && Check.read(octet) <= 3;
            Check.due("BOOK " + octet + ": lost", x.told(2), isTaken ? 0 : 1);
            Check.due("BOOK " + octet + ": mended", x.told(3), Check.mended(octet));
            Check.due("BOOK " + octet + ": came", x.told(1), 2);
            Check.octets(x, withOctet(Check.codedOctets(0, 0, 8, 8, 0, 0, 0, 0, 0, 0), 0, octet));
            Check.due("BOOK " + octet + ": pages by a HEAD", x.told(0), isTaken ? 2 : 1);
            Check.due("BOOK " + octet + ": the page's", x.page(1, 0), isTaken ? Check.read(octet) : Check.UNKNOWN);
        }
    }

    // 1 KIND (READ 0 .. 7). It is LOST, if .. KIND is not READ so.
    private static void everyOctetAsKind() {
        for (int octet = 0; octet < 256; octet++) {
            PageRounds x = openBook();
            Check.octets(x, withOctet(Check.codedOctets(1, 0, 3, 3, 3, 3, 3, 3, 3, 3), 1, octet));
            int kind = Check.read(octet);
            Check.due("KIND " + octet + ": lost", x.told(2), kind >= 0 && kind <= 7 ? 0 : 1);
            Check.due("KIND " + octet + ": mended", x.told(3), Check.mended(octet));
            Check.due("KIND " + octet + ": pages", x.told(0), kind == 0 ? 2 : 1);
            Check.due("KIND " + octet + ": open", x.open(1), kind == 0 ? 1 : 0);
            Check.due("KIND " + octet + ": lacks", x.page(0, 6), kind >= 1 && kind <= 5 ? 31 - (1 << kind - 1) : 31);
            Check.due("KIND " + octet + ": link", x.link(0, 0), kind == 6 ? 33 : Check.NONE);
        }
    }

    // 2 units, 3 tens of a NUMBER (READ 0 .. 9 each), 4 PART (READ 0 .. 7), 5 FLAGS (READ). It is LOST, if a HEAD's 2 to 5
    // are not. MENDED OCTETS are counted: of HEADS 2 to 5, all four.
    private static void everyOctetInAHead() {
        int[] most = {9, 9, 7, 15};
        for (int at = 2; at < 6; at++) {
            for (int octet = 0; octet < 256; octet++) {
                PageRounds x = openBook();
                int[] head = Check.codedOctets(1, 0, 4, 5, 6, 1, 0, 0, 0, 0);
                Check.octets(x, withOctet(head, at, octet));
                int v = Check.read(octet);
                boolean isTaken = v >= 0 && v <= most[at - 2];
                String what = "octet " + at + " of a HEAD " + octet;
                Check.due(what + ": lost", x.told(2), isTaken ? 0 : 1);
                Check.due(what + ": mended", x.told(3), Check.mended(octet));
                Check.due(what + ": open", x.open(1), isTaken ? 1 : Check.NONE);
                Check.due(what + ": number", x.page(1, 1), !isTaken ? Check.UNKNOWN : at == 2 ? 50 + v : at == 3 ? 10 * v + 4 : 54);
                Check.due(what + ": part", x.page(1, 2), !isTaken ? Check.UNKNOWN : at == 4 ? v : 6);
            }
        }
    }

    // 6 to 9 have no say.
    private static void everyOctetBehindAHead() {
        for (int octet = 0; octet < 256; octet++) {
            PageRounds x = openBook();
            int[] head = Check.codedOctets(1, 0, 7, 7, 0, 0, 0, 0, 0, 0);
            for (int at = 6; at < 10; at++) {
                head[at] = octet;
            }
            Check.octets(x, head);
            Check.due("6 to 9 are " + octet + ": heads", x.page(0, 3), 2);
            Check.due("6 to 9 are " + octet + ": mended", x.told(3), 0);
            Check.due("6 to 9 are " + octet + ": lost", x.told(2), 0);
        }
    }

    // A LETTER is WELL, if an odd number of its bits is 1; it is the lower seven bits. Each LETTER that is WELL is put there,
    // SURE; one that is not, just if there is none that is SURE (it is UNSURE).
    private static void everyOctetAsLetter() {
        for (int octet = 0; octet < 256; octet++) {
            PageRounds x = openBook();
            int old = (octet + 1) % 128;
            Check.octets(x, Check.tenOctets(1, 3, octet, Check.well(old), Check.spoiled(old), octet, octet, octet, octet, octet));
            boolean isWell = octet == Check.well(octet % 128);
            int alone = isWell ? octet % 128 : octet % 128 + 128;
            Check.due(octet + " alone", x.letter(0, 2, 0), alone);
            Check.due(octet + " at the last place", x.letter(0, 2, 7), alone);
            Check.due(octet + ": sure ones", x.page(0, 7), isWell ? 7 : 1);
            Check.octets(x, Check.tenOctets(1, 3, octet, octet, octet, octet, octet, octet, octet, octet));
            Check.due(octet + " for a sure one", x.letter(0, 2, 1), isWell ? octet % 128 : old);
            Check.due(octet + " for an unsure one", x.letter(0, 2, 2), alone);
            Check.due(octet + ": mended", x.told(3), 0);
        }
    }

    // 6 LINKS: four times units, tens of a NUMBER (READ 0 .. 9 each; else that LINK is none). LINKS that are none leave what
    // there is. MENDED OCTETS are counted: .. of LINKS that go to a PAGE all eight.
    private static void everyOctetInLinks() {
        for (int octet = 0; octet < 256; octet++) {
            for (int at = 2; at < 10; at++) {
                PageRounds x = openBook();
                int[] links = Check.codedOctets(1, 6, 3, 2, 3, 2, 3, 2, 3, 2);
                Check.octets(x, withOctet(links, at, octet));
                int v = Check.read(octet), j = (at - 2) / 2;
                boolean isNumber = v >= 0 && v <= 9;
                int number = at % 2 == 0 ? 20 + v : 10 * v + 3;
                Check.due("octet " + at + " of LINKS " + octet, x.link(0, j), isNumber ? number : Check.NONE);
                Check.due("the next link", x.link(0, (j + 1) % 4), 23);
                Check.due("it is not lost", x.told(2), 0);
                Check.due("mended", x.told(3), Check.mended(octet));
                x.packet(1, 6, Check.links(99, 99, 99, 99));
                Check.octets(x, links);
                Check.due("a link that is none leaves what there is", x.link(0, j), isNumber ? number : 99);
            }
        }
    }

    // eight numbers as the last eight figures of 16, the first the highest: CODED by KIND 0, 6, else 64 and each, with bit 7,
    // if the number of its bits would be even else
    private static void figuresOfWholePackets() {
        for (int kind = 0; kind < 8; kind++) {
            for (int figure = 0; figure < 16; figure++) {
                for (int at = 0; at < 8; at++) {
                    PageRounds x = openBook(), same = openBook();
                    int[] ten = new int[10];
                    ten[0] = Check.coded(1);
                    ten[1] = Check.coded(kind);
                    for (int i = 0; i < 8; i++) {
                        int v = i == at ? figure : 1;
                        ten[2 + i] = kind == 0 || kind == 6 ? Check.coded(v) : Check.well(64 + v);
                    }
                    long eight = 0x11111111L + ((long) figure - 1 << 28 - 4 * at);
                    int taken = x.packet(1, kind, eight + 0x7000000000000000L);
                    Check.octets(same, ten);
                    String what = "KIND " + kind + ", figure " + figure + " at " + at;
                    Check.due(what, taken, 1 - same.told(2));
                    alike(what, x, same);
                }
            }
        }
    }

    private static void alike(String what, PageRounds x, PageRounds same) {
        for (int told = 0; told < 8; told++) {
            Check.due(what + ": told(" + told + ")", x.told(told), same.told(told));
        }
        for (int k = 0; k < same.told(0); k++) {
            for (int of = 0; of < 9; of++) {
                Check.due(what + ": page(" + k + ", " + of + ")", x.page(k, of), same.page(k, of));
            }
            for (int place = 0; place < 40; place++) {
                Check.due(what + ": a letter", x.letter(k, place / 8, place % 8), same.letter(k, place / 8, place % 8));
            }
            for (int j = 0; j < 4; j++) {
                Check.due(what + ": link " + j, x.link(k, j), same.link(k, j));
            }
        }
    }

    // 1 to 5 a ROW (so many, less 1): eight LETTERS; .. 7 nothing.
    private static void kindsAndRows() {
        for (int kind = 1; kind < 8; kind++) {
            PageRounds x = openBook();
            Check.due("KIND " + kind, x.packet(1, kind, 0), 1);
            for (int row = 0; row < 5; row++) {
                Check.due("KIND " + kind + ", ROW " + row, x.letter(0, row, 7), row == kind - 1 ? 64 : Check.NONE);
            }
            Check.due("KIND " + kind + ": LENGTH", x.page(0, 5), kind == 7 ? 1 : 2);
        }
    }

    // It is LOST .. if a ROW, LINKS comes for a BOOK that is not OPEN.
    private static void lostWhereNothingIsOpen() {
        PageRounds x = openBook();
        for (int book = 0; book < 4; book++) {
            for (int kind = 1; kind < 8; kind++) {
                boolean isLost = book != 1 && kind != 7;
                Check.due("BOOK " + book + ", KIND " + kind, x.packet(book, kind, 0), isLost ? 0 : 1);
            }
        }
        Check.due("lost", x.told(2), 18);
        Check.due("came", x.told(1), 29);
        x.drop(0);
        Check.due("the open page was dropped", x.packet(1, 1, 0), 0);
        x.undo(2);
        Check.due("undone, it is open again", x.packet(1, 1, 0), 1);
    }

    // A HEAD that is LOST by its 2 to 5 closes its BOOK.
    private static void lostHeadsClose() {
        for (int at = 2; at < 6; at++) {
            PageRounds x = openBook();
            x.packet(2, 0, Check.head(1, 0, 0));
            int[] head = Check.codedOctets(1, 0, 7, 7, 0, 0, 0, 0, 0, 0);
            head[at] = Check.coded(7) ^ 0x42;
            Check.due("an octet in two bits otherwise", Check.read(head[at]), Check.NONE);
            Check.octets(x, head);
            Check.due("lost by octet " + at, x.told(2), 1);
            Check.due("closed", x.open(1), Check.NONE);
            Check.due("not the other", x.open(2), 1);
            Check.due("the page stays", x.find(1, 77, 0), 0);
            Check.due("links for it are lost", x.packet(1, 6, 0), 0);
            head[at] = Check.coded(at < 4 ? 7 : 0);
            Check.octets(x, head);
            Check.due("open again", x.open(1), 0);
            Check.due("heads that came", x.page(0, 3), 2);
        }
        PageRounds y = openBook();
        Check.due("a book that is not open", y.packet(0, 0, Check.head(0, 8, 0)), 0);
        Check.due("stays so", y.open(0), Check.NONE);
        Check.due("and the open one open", y.open(1), 0);
    }

    private static void lostByBookOrKindClosesNothing() {
        PageRounds x = new PageRounds();
        for (int book = 0; book < 4; book++) {
            x.packet(book, 0, Check.head(book, 0, 0));
        }
        Check.octets(x, Check.codedOctets(4, 0, 10, 10, 8, 0, 0, 0, 0, 0));
        Check.octets(x, withOctet(Check.codedOctets(0, 0, 10, 10, 8, 0, 0, 0, 0, 0), 0, Check.coded(1) ^ 3));
        Check.octets(x, Check.codedOctets(2, 8, 10, 10, 8, 0, 0, 0, 0, 0));
        Check.octets(x, withOctet(Check.codedOctets(3, 0, 10, 10, 8, 0, 0, 0, 0, 0), 1, Check.coded(0) ^ 3));
        Check.due("four are lost", x.told(2), 4);
        for (int book = 0; book < 4; book++) {
            Check.due("open(" + book + ")", x.open(book), book);
        }
    }

    // MENDED OCTETS are counted: of HEADS (BOOK and KIND READ so) 2 to 5, .. of LINKS that go to a PAGE all eight
    private static void mendedInClosedBooks() {
        int[] spoiled = new int[8];
        for (int i = 0; i < 8; i++) {
            spoiled[i] = Check.coded(3) ^ 1 << i;
        }
        PageRounds x = openBook();
        Check.octets(x, Check.tenOctets(1, 6, spoiled));
        Check.due("LINKS that go to a page", x.told(3), 8);
        Check.octets(x, Check.tenOctets(0, 6, spoiled));
        Check.octets(x, Check.tenOctets(4, 6, spoiled));
        Check.octets(x, Check.tenOctets(4, 0, spoiled));
        Check.octets(x, Check.tenOctets(1, 8, spoiled));
        Check.octets(x, Check.tenOctets(1, 7, spoiled));
        Check.octets(x, Check.tenOctets(1, 1, spoiled));
        Check.due("none of others", x.told(3), 8);
        Check.octets(x, Check.tenOctets(2, 0, spoiled));
        Check.due("2 to 5 of a HEAD for a closed book", x.told(3), 12);
        Check.due("it opens it", x.open(2), 1);
        Check.octets(x, withOctet(Check.tenOctets(2, 0, spoiled), 4, Check.coded(8)));
        Check.due("of one that is LOST the other three", x.told(3), 15);
        Check.due("it closes it", x.open(2), Check.NONE);
    }

    // PAGES are told by BOOK, NUMBER, PART.
    private static void bookPartAndNumberTellPages() {
        PageRounds x = new PageRounds();
        int[][] pages = {{0, 0, 0}, {0, 0, 7}, {0, 99, 0}, {0, 9, 0}, {0, 90, 0}, {3, 0, 0}, {3, 99, 7}};
        for (int k = 0; k < pages.length; k++) {
            x.packet(pages[k][0], 0, Check.head(pages[k][1], pages[k][2], 0));
            Check.due("another page", x.told(0), k + 1);
        }
        for (int k = 0; k < pages.length; k++) {
            x.packet(pages[k][0], 0, Check.head(pages[k][1], pages[k][2], 0));
            Check.due("the same page", x.open(pages[k][0]), k);
            Check.due("find", x.find(pages[k][0], pages[k][1], pages[k][2]), k);
        }
        Check.due("no more pages", x.told(0), 7);
    }

    private static PageRounds tenPages() {
        PageRounds x = new PageRounds();
        for (int number = 0; number < 10; number++) {
            x.packet(number % 4, 0, Check.head(number, 0, 0));
        }
        return x;
    }

    // PAGES (10 at most are kept) .. one that there is not comes behind the others; if there are 10, the one whose HEAD came
    // longest ago goes
    private static void tenthAndEleventhPage() {
        PageRounds x = new PageRounds();
        for (int number = 0; number < 23; number++) {
            x.packet(0, 0, Check.head(number, 0, 0));
            Check.due("pages", x.told(0), Math.min(number + 1, 10));
            Check.due("the latest is behind the others", x.open(0), Math.min(number, 9));
            Check.due("the first", x.page(0, 1), Math.max(0, number - 9));
            Check.due("the one ahead of it is gone", x.find(0, number - 10, 0), Check.NONE);
        }
        Check.due("page 10", x.page(10, 0), Check.UNKNOWN);
    }

    private static void headsOfPagesThatThereAre() {
        PageRounds x = tenPages();
        for (int number = 0; number < 10; number++) {
            x.packet(number % 4, 0, Check.head(number, 0, 1));
            Check.due("ten stay", x.told(0), 10);
            Check.due("it keeps its place", x.open(number % 4), number);
            Check.due("heads", x.page(number, 3), 2);
        }
    }

    private static void whoseHeadCameLongestAgo() {
        PageRounds x = tenPages();
        for (int number = 9; number >= 0; number--) {
            x.packet(number % 4, 0, Check.head(number, 0, 0));
        }
        for (int gone = 9; gone >= 0; gone--) {
            x.packet(0, 0, Check.head(50 + gone, 0, 0));
            Check.due(gone + " goes", x.find(gone % 4, gone, 0), Check.NONE);
            Check.due("ten", x.told(0), 10);
            for (int left = 0; left < gone; left++) {
                Check.due(left + " stays", x.find(left % 4, left, 0), left);
            }
        }
    }

    private static void rowsAndLostHeadsAreNoHeads() {
        PageRounds x = new PageRounds();
        for (int book = 0; book < 2; book++) {
            x.packet(book, 0, Check.head(7, 0, 0));
        }
        for (int number = 10; number < 18; number++) {
            x.packet(2, 0, Check.head(number, 0, 0));
        }
        x.packet(0, 1, 0);
        x.packet(0, 6, 0);
        x.packet(0, 7, 0);
        x.weight(0, 9);
        Check.octets(x, withOctet(Check.codedOctets(0, 0, 7, 0, 0, 0, 0, 0, 0, 0), 5, Check.coded(0) ^ 6));
        x.packet(3, 0, Check.head(20, 0, 0));
        Check.due("page 0 goes all the same", x.find(0, 7, 0), Check.NONE);
        Check.due("not page 1", x.find(1, 7, 0), 0);
    }

    // goes (BOOKS in which it is OPEN are closed)
    private static void theOneThatGoesIsOpen() {
        PageRounds x = new PageRounds();
        for (int number = 0; number < 10; number++) {
            x.packet(number == 0 ? 3 : 0, 0, Check.head(number, 0, 0));
        }
        Check.due("open", x.open(3), 0);
        x.packet(1, 0, Check.head(60, 0, 0));
        Check.due("its book is closed", x.open(3), Check.NONE);
        Check.due("a row for it is lost", x.packet(3, 1, 0), 0);
        Check.due("open(0)", x.open(0), 8);
        Check.due("open(1)", x.open(1), 9);
        x.undo(2);
        Check.due("open again", x.open(3), 0);
        Check.due("open(0)", x.open(0), 9);
        x.packet(3, 0, Check.head(61, 0, 0));
        Check.due("a head of the same book opens its own page", x.open(3), 9);
        Check.due("the other went", x.find(3, 0, 0), Check.NONE);
    }

    // bit 0: CLEAR. With CLEAR its LETTERS, LINKS are none. rows that do not come are kept, or cleared if the head tells so
    private static void flagsThatClear() {
        for (int flags = 0; flags < 16; flags++) {
            PageRounds x = openBook();
            x.packet(1, 5, 0);
            x.packet(1, 6, Check.links(0, 1, 2, 3));
            x.weight(0, 8);
            x.packet(1, 0, Check.head(77, 0, flags));
            boolean isClear = flags % 2 == 1;
            Check.due("FLAGS " + flags + ": lacks", x.page(0, 6), isClear ? 31 : 15);
            Check.due("FLAGS " + flags + ": link", x.link(0, 3), isClear ? Check.NONE : 3);
            Check.due("FLAGS " + flags + ": length", x.page(0, 5), isClear ? 1 : 3);
            Check.due("FLAGS " + flags + ": the weight stays", x.page(0, 4), 8);
            Check.due("FLAGS " + flags + ": heads", x.page(0, 3), 2);
            x.packet(1, 0, Check.head(78, 0, flags));
            Check.due("FLAGS " + flags + ": of a new page", x.page(1, 5), 1);
        }
    }

    private static void clearedLettersMayBeUnsure() {
        PageRounds x = openBook();
        x.packet(1, 1, 0);
        x.packet(1, 0, Check.head(77, 0, 1));
        int bad = Check.spoiled(70);
        Check.octets(x, Check.tenOctets(1, 1, bad, bad, bad, bad, bad, bad, bad, bad));
        Check.due("none was sure any more", x.letter(0, 0, 0), 128 + 70);
    }

    // PAGES have .. LENGTH: 1, and how many of its ROWS, LINKS have anything.
    private static void lengths() {
        PageRounds x = openBook();
        Check.due("the least", x.page(0, 5), 1);
        Check.due("all rows are lacking", x.page(0, 6), 31);
        for (int row = 0; row < 5; row++) {
            x.packet(1, row + 1, 0);
            Check.due("LENGTH", x.page(0, 5), row + 2);
        }
        Check.due("no row is lacking", x.page(0, 6), 0);
        x.packet(1, 6, Check.links(-1, -1, -1, -1));
        Check.due("LINKS that are none", x.page(0, 5), 6);
        for (int j = 0; j < 4; j++) {
            PageRounds y = openBook();
            y.packet(1, 6, Check.links(j == 0 ? 0 : -1, j == 1 ? 0 : -1, j == 2 ? 0 : -1, j == 3 ? 0 : -1));
            Check.due("one link is enough", y.page(0, 5), 2);
        }
        x.packet(1, 6, Check.links(0, 0, 0, 0));
        Check.due("the greatest", x.page(0, 5), 7);
        Check.due("all are sure", x.page(0, 7), 40);
    }

    // An OCTET comes: how many of its PACKET there are (0: it was whole).
    private static void tenOctetsMakeOne() {
        PageRounds x = new PageRounds();
        for (int packets = 0; packets < 20; packets++) {
            for (int i = 1; i <= 10; i++) {
                Check.due("octet " + i, x.octet(packets), i % 10);
                Check.due("told(4)", x.told(4), i % 10);
                Check.due("came", x.told(1), i == 10 ? packets + 1 : packets);
            }
        }
        PageRounds y = openBook();
        y.drift(1);
        int came = y.told(1);
        Check.octets(y, Check.codedOctets(1, 0, 8, 8, 0, 0, 0, 0, 0, 0));
        Check.due("nothing of a packet by draws is left in it", y.find(1, 88, 0), y.told(0) - 1);
        Check.due("one came", y.told(1), came + 1);
    }

    // MENDED OCTETS are counted (99999 at most). So many need more calls than are promised; the program's count holds beyond.
    private static void mostMendedOctets() {
        PageRounds x = openBook();
        int[] ten = Check.codedOctets(1, 6, 1, 1, 1, 1, 1, 1, 1, 1);
        for (int i = 0; i < 10; i++) {
            ten[i] ^= 128;
        }
        for (int packet = 1; packet < 10000; packet++) {
            Check.octets(x, ten);
        }
        Check.due("ten short of it", x.told(3), 99990);
        int[] nine = ten.clone();
        nine[9] ^= 128;
        Check.octets(x, nine);
        Check.due("the most", x.told(3), 99999);
        Check.octets(x, ten);
        Check.due("not one more", x.told(3), 99999);
        x.undo(2);
        Check.due("undone", x.told(3), 99990);
        Check.octets(x, ten);
        Check.due("up to the most, not above it", x.told(3), 99999);
    }

    // how often its HEAD came (9999 at most). As above.
    private static void mostHeads() {
        PageRounds x = openBook();
        for (int head = 2; head < 9999; head++) {
            x.packet(1, 0, Check.head(77, 0, 0));
        }
        Check.due("one short of it", x.page(0, 3), 9998);
        x.packet(1, 0, Check.head(77, 0, 0));
        Check.due("the most", x.page(0, 3), 9999);
        x.packet(1, 0, Check.head(77, 0, 1));
        Check.due("not one more", x.page(0, 3), 9999);
        Check.due("it is a PACKET that came, all the same", x.told(1), 10000);
        x.undo(2);
        Check.due("undone", x.page(0, 3), 9998);
    }
}
