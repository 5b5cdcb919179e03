/** Part 3 of the terms but for BEST RULE: sets, ways, the book of letters, draws, what is undone, images. */
public final class AskingEdgesTest {
    public static void main(String[] args) {
        lacks();
        sureOnes();
        linkedToNoneAndToAll();
        linkedByNumbersAtTheirBounds();
        farOfTheSame();
        farAndNoWay();
        farOverAllTen();
        emptyBook();
        twentyEntries();
        firstAndLastEntryWrong();
        zeroIsNotNone();
        entriesOfNumbers();
        judgedAsItIsNow();
        seedsLeftOver();
        everyBitByDraws();
        octetsGoOnBehindDraws();
        whatIsADeed();
        whatIsNoDeed();
        sixteenDeeds();
        undoneOneByOneOrAtOnce();
        undoneEvictions();
        seedAndOctetsStay();
        noImages();
        imagesOfNothing();
        imagesOfAll();
        imagesStayWhatTheyAre();
        nothingUndoneBehindImages();
        Check.end();
    }

    private static PageRounds onePage() {
        PageRounds x = new PageRounds();
        x.packet(1, 0, Check.head(5, 0, 0));
        return x;
    }

    private static PageRounds tenPages() {
        PageRounds x = new PageRounds();
        for (int number = 0; number < 10; number++) {
            x.packet(1, 0, Check.head(number, 0, 0));
        }
        return x;
    }

    // LACKS: ROWS (a SET) without any LETTER.
    private static void lacks() {
        int bad = Check.spoiled(0);
        for (int row = 0; row < 5; row++) {
            PageRounds x = onePage();
            Check.due("all at first", x.page(0, 6), 31);
            Check.octets(x, Check.tenOctets(1, row + 1, bad, bad, bad, bad, bad, bad, bad, bad));
            Check.due("unsure letters are letters", x.page(0, 6), 31 - (1 << row));
            Check.due("none is sure", x.page(0, 7), 0);
            for (int other = 0; other < 5; other++) {
                x.packet(1, other + 1, 0);
            }
            Check.due("none is lacking", x.page(0, 6), 0);
        }
    }

    // SURE ones: how many LETTERS are.
    private static void sureOnes() {
        PageRounds x = onePage();
        Check.due("none at first", x.page(0, 7), 0);
        for (int row = 0; row < 5; row++) {
            for (int i = 0; i < 8; i++) {
                int[] eight = new int[8];
                eight[i] = 128;
                Check.octets(x, Check.tenOctets(1, row + 1, eight));
                Check.due("one more", x.page(0, 7), 8 * row + i + 1);
            }
        }
        Check.due("all forty", x.page(0, 7), 40);
    }

    // LINKED: PAGES (a SET) to which LINKS of a PAGE lead: of its BOOK, with that NUMBER, any PART.
    private static void linkedToNoneAndToAll() {
        PageRounds x = new PageRounds();
        for (int part = 0; part < 8; part++) {
            x.packet(0, 0, Check.head(7, part, 0));
        }
        x.packet(0, 0, Check.head(8, 0, 0));
        x.packet(0, 0, Check.head(9, 0, 0));
        Check.due("no links", x.page(9, 8), 0);
        x.packet(0, 6, Check.links(-1, 9, -1, -1));
        Check.due("itself, the last", x.page(9, 8), 512);
        x.packet(0, 6, Check.links(7, -1, -1, -1));
        Check.due("eight parts more", x.page(9, 8), 255 + 512);
        x.packet(0, 6, Check.links(-1, -1, 8, 7));
        Check.due("all ten", x.page(9, 8), 1023);
        x.packet(1, 0, Check.head(7, 0, 0));
        x.packet(1, 6, Check.links(8, 9, 8, 9));
        Check.due("just of its book", x.page(9, 8), 0);
        Check.due("the others have one number less", x.page(8, 8), 127 + 128 + 256);
    }

    private static void linkedByNumbersAtTheirBounds() {
        PageRounds x = new PageRounds();
        x.packet(2, 0, Check.head(0, 0, 0));
        x.packet(2, 0, Check.head(99, 7, 0));
        Check.due("no links lead nowhere", x.page(0, 8), 0);
        x.packet(2, 6, Check.links(0, -1, -1, -1));
        Check.due("number 0", x.page(1, 8), 1);
        x.packet(2, 6, Check.links(99, -1, -1, -1));
        Check.due("number 99", x.page(1, 8), 2);
        x.packet(2, 6, Check.links(98, 1, 90, 9));
        Check.due("numbers that no page has", x.page(1, 8), 0);
        Check.octets(x, Check.tenOctets(2, 1, Check.well(99), 0, 128, Check.well(99), 0, 0, 0, 99));
        Check.due("letters are no links", x.page(1, 8), 0);
        Check.due("nor a way", x.far(1, 0), Check.NONE);
    }

    // FAR from a PAGE to another (perhaps the same: 0)
    private static void farOfTheSame() {
        PageRounds x = tenPages();
        for (int k = 0; k < 10; k++) {
            Check.due("far(" + k + ", " + k + ")", x.far(k, k), 0);
        }
        x.packet(1, 6, Check.links(9, 9, 9, 9));
        Check.due("a link to itself", x.far(9, 9), 0);
    }

    // the least number of LINKS; NONE.
    private static void farAndNoWay() {
        PageRounds x = tenPages();
        Check.due("no links", x.far(0, 9), Check.NONE);
        x.packet(1, 6, Check.links(0, -1, -1, -1));
        Check.due("a link", x.far(9, 0), 1);
        Check.due("links lead one way", x.far(0, 9), Check.NONE);
        x.packet(2, 0, Check.head(0, 0, 0));
        x.packet(2, 6, Check.links(9, -1, -1, -1));
        Check.due("a number of another book", x.far(9, 8), Check.NONE);
        x.packet(2, 0, Check.head(9, 0, 0));
        Check.due("of its own", x.far(8, 9), 1);
    }

    private static void farOverAllTen() {
        PageRounds x = new PageRounds();
        for (int number = 0; number < 10; number++) {
            x.packet(1, 0, Check.head(number, 0, 0));
            x.packet(1, 6, Check.links((number + 1) % 10, -1, -1, -1));
        }
        for (int k = 0; k < 10; k++) {
            for (int other = 0; other < 10; other++) {
                Check.due("round: far(" + k + ", " + other + ")", x.far(k, other), (other - k + 10) % 10);
            }
        }
        x.packet(1, 0, Check.head(4, 0, 1));
        Check.due("the ring is cut", x.far(3, 5), Check.NONE);
        Check.due("not ahead of it", x.far(5, 4), 9);
        x.packet(1, 0, Check.head(0, 0, 0));
        x.packet(1, 6, Check.links(-1, -1, -1, 5));
        Check.due("a shorter way", x.far(9, 5), 2);
    }

    // 5 entries of THE BOOK OF LETTERS, 6 WRONG. tear(): how much it had.
    private static void emptyBook() {
        PageRounds x = onePage();
        Check.due("entries", x.told(5), 0);
        Check.due("wrong", x.told(6), Check.NONE);
        Check.due("tear", x.tear(), 0);
        x.write(0, 0, 0, 0);
        Check.due("tear", x.tear(), 1);
        Check.due("tear again", x.tear(), 0);
        Check.due("wrong", x.told(6), Check.NONE);
    }

    // THE BOOK OF LETTERS (20 at most). FULL (20).
    private static void twentyEntries() {
        PageRounds x = onePage();
        x.packet(1, 1, 0);
        for (int entry = 1; entry <= 20; entry++) {
            Check.due("entry " + entry, x.write(0, 0, 0, 64), entry);
            Check.due("told(5)", x.told(5), entry);
        }
        Check.due("the 21st", x.write(0, 0, 0, 0), Check.FULL);
        Check.due("twenty", x.told(5), 20);
        Check.due("it was not written", x.told(6), Check.NONE);
        Check.due("tear", x.tear(), 20);
        for (int entry = 1; entry <= 20; entry++) {
            Check.due("entry " + entry, x.write(0, 0, 0, 64), entry);
        }
        Check.due("full again", x.write(0, 0, 0, 64), Check.FULL);
    }

    // WRONG: the first that is otherwise now
    private static void firstAndLastEntryWrong() {
        for (int wrong = 0; wrong < 20; wrong++) {
            PageRounds x = onePage();
            x.packet(1, 5, 0);
            for (int entry = 0; entry < 20; entry++) {
                x.write(0, 4, 7, entry == wrong || entry == 19 ? 65 : 64);
            }
            Check.due("wrong", x.told(6), wrong);
        }
    }

    // (none there .. : it is, too). LETTER (0 .. 127; SURE or not)
    private static void zeroIsNotNone() {
        PageRounds x = onePage();
        x.write(0, 2, 0, 0);
        Check.due("none is there", x.told(6), 0);
        Check.octets(x, Check.tenOctets(1, 3, 0, 255, 127, 0, 0, 0, 0, 0));
        Check.due("0 is there, unsure", x.told(6), Check.NONE);
        x.write(0, 2, 1, 127);
        x.write(0, 2, 2, 127);
        Check.due("127, unsure and sure", x.told(6), Check.NONE);
        Check.octets(x, Check.tenOctets(1, 3, 128, 126, 255, 0, 0, 0, 0, 0));
        Check.due("0 is sure now, 126 is unsure at place 1", x.told(6), 1);
        x.packet(1, 0, Check.head(5, 0, 1));
        Check.due("cleared: none is there", x.told(6), 0);
    }

    // a PAGE, told by its number (whatever PAGE has that number now) .. a number that no PAGE has any more
    private static void entriesOfNumbers() {
        PageRounds x = tenPages();
        x.packet(1, 1, 0x11111111);
        x.write(9, 0, 0, 65);
        Check.due("page 9 is right", x.told(6), Check.NONE);
        x.drop(0);
        Check.due("no page has number 9 any more", x.told(6), 0);
        x.packet(1, 0, Check.head(50, 0, 0));
        Check.due("another has it, without the letter", x.told(6), 0);
        x.packet(1, 1, 0x12222222);
        Check.due("another has it, with the letter", x.told(6), Check.NONE);
        x.packet(2, 0, Check.head(51, 0, 0));
        Check.due("the number is that of the new one", x.told(6), 0);
        x.undo(1);
        Check.due("undone", x.told(6), Check.NONE);
    }

    private static void judgedAsItIsNow() {
        PageRounds x = onePage();
        x.keep(0);
        x.packet(1, 1, 0);
        x.write(0, 0, 0, 64);
        Check.due("right", x.told(6), Check.NONE);
        x.undo(1);
        Check.due("undone: none is there", x.told(6), 0);
        x.packet(1, 1, 0);
        Check.due("there again", x.told(6), Check.NONE);
        x.goBack(0);
        Check.due("gone back: none is there", x.told(6), 0);
        Check.due("the book stays", x.told(5), 1);
    }

    private static long nextSeed(long seed) {
        return (seed * 1103515245L + 12345L) % 2147483648L;
    }

    // THE SEED (0 at first: each DRAW it becomes it times 1103515245 and 12345, left over by 2 to the 31)
    private static void seedsLeftOver() {
        PageRounds fresh = new PageRounds();
        Check.due("0 at first", fresh.seed(0), 0);
        for (long first : new long[] {0, 1, 65535, 65536, 1 << 30, 2147483646L, 2147483647L}) {
            PageRounds x = new PageRounds();
            x.seed((int) first);
            long seed = first;
            for (int packets = 0; packets < 20; packets++) {
                x.drift(1);
                for (int draw = 0; draw < 11; draw++) {
                    seed = nextSeed(seed);
                }
                Check.due("the seed from " + first, x.seed((int) seed), seed);
            }
            PageRounds y = new PageRounds();
            y.seed((int) first);
            y.drift(16);
            y.drift(4);
            Check.due("sixteen and four from " + first, y.seed(0), seed);
        }
        PageRounds z = new PageRounds();
        z.drift(1);
        long seed = 0;
        for (int draw = 0; draw < 11; draw++) {
            seed = nextSeed(seed);
        }
        Check.due("from 0, that was not set", z.seed(5), seed);
        Check.due("set", z.seed(0), 5);
    }

    // then bit (the last) of it, from bit 0 of its OCTET 0 on, is changed
    private static void everyBitByDraws() {
        boolean[] seen = new boolean[80];
        for (int first = 0; first < 2000; first++) {
            long seed = first;
            int[] of = {4, 8, 10, 10, 10, 10, 10, 10, 10, 10, 80}, draws = new int[11];
            for (int i = 0; i < 11; i++) {
                seed = nextSeed(seed);
                draws[i] = (int) (seed / 65536 % of[i]);
            }
            seen[draws[10]] = true;
            int[] ten = new int[10];
            for (int i = 0; i < 10; i++) {
                boolean isCoded = i < 2 || draws[1] == 0 || draws[1] == 6;
                ten[i] = isCoded ? Check.coded(draws[i]) : Check.well(64 + draws[i]);
            }
            ten[draws[10] / 8] ^= 1 << draws[10] % 8;
            PageRounds x = new PageRounds(), same = new PageRounds();
            for (int book = 0; book < 4; book++) {
                x.packet(book, 0, 0);
                same.packet(book, 0, 0);
            }
            x.seed(first);
            Check.due("pages", x.drift(1), Check.octets(same, ten) + same.told(0));
            Check.due("mended", x.told(3), same.told(3));
            Check.due("lost", x.told(2), same.told(2));
            int book = draws[0], row = Math.max(0, Math.min(4, draws[1] - 1));
            for (int i = 0; i < 8; i++) {
                Check.due("letter", x.letter(book, row, i), same.letter(book, row, i));
                Check.due("link", x.link(book, i % 4), same.link(book, i % 4));
            }
        }
        for (int bit = 0; bit < 80; bit++) {
            Check.holds("bit " + bit + " was drawn", seen[bit]);
        }
    }

    // (OCTETS that came singly go on behind it.)
    private static void octetsGoOnBehindDraws() {
        for (int some = 0; some < 10; some++) {
            PageRounds x = new PageRounds();
            int[] head = Check.codedOctets(3, 0, 2, 4, 6, 0, 0, 0, 0, 0);
            for (int i = 0; i < some; i++) {
                x.octet(head[i]);
            }
            x.drift(16);
            x.packet(3, 0, Check.head(42, 5, 0));
            Check.due("octets", x.told(4), some);
            for (int i = some; i < 10; i++) {
                Check.due("octet " + i, x.octet(head[i]), (i + 1) % 10);
            }
            Check.due("their packet", x.page(x.open(3), 2), 6);
            Check.due("came", x.told(1), 18);
        }
    }

    // the latest deeds (octet() that ends a PACKET, packet(), weight(), drop(), each of the times BY DRAWS)
    private static void whatIsADeed() {
        PageRounds x = new PageRounds();
        Check.octets(x, Check.codedOctets(1, 0, 2, 2, 2, 0, 0, 0, 0, 0));
        Check.due("octet() that ends a PACKET", x.told(7), 1);
        Check.octets(x, 0, 0, 0, 0, 0, 0, 0, 0, 0, 0);
        Check.due("also of one that is LOST", x.told(7), 2);
        x.packet(1, 7, 0);
        Check.due("packet(), also of KIND 7", x.told(7), 3);
        x.packet(2, 1, 0);
        Check.due("packet(), also LOST", x.told(7), 4);
        x.weight(0, 1);
        Check.due("weight(), also the same", x.told(7), 5);
        x.drop(0);
        Check.due("drop()", x.told(7), 6);
        x.drift(1);
        Check.due("BY DRAWS", x.told(7), 7);
        x.drift(7);
        Check.due("each of the times", x.told(7), 14);
        Check.due("all of them undone", x.undo(14), 0);
        Check.due("no pages", x.told(0), 0);
        Check.due("none mended", x.told(3), 0);
        Check.due("none lost", x.told(2), 0);
    }

    private static void whatIsNoDeed() {
        PageRounds x = onePage();
        Check.octets(x, 1, 2, 3, 4, 5, 6, 7, 8, 9);
        x.seed(4);
        x.write(0, 0, 0, 0);
        x.tear();
        x.sent(0, 0);
        x.bestRule(3);
        Check.due("one alone", x.told(7), 1);
        x.undo(1);
        Check.due("undo() is none", x.told(7), 0);
        x.keep(0);
        x.goBack(0);
        Check.due("nor are images", x.told(7), 0);
    }

    // (16 at most are kept). undo(): NOT: not so many.
    private static void sixteenDeeds() {
        for (int deeds = 0; deeds <= 40; deeds++) {
            PageRounds x = new PageRounds();
            for (int i = 0; i < deeds; i++) {
                x.packet(0, 0, Check.head(i % 7, 0, 0));
            }
            int can = Math.min(deeds, 16);
            Check.due("told(7) behind " + deeds, x.told(7), can);
            if (can < 16) {
                Check.due("one more than there are", x.undo(can + 1), Check.NOT);
            }
            Check.due("sixteen, if there are", x.undo(16), can < 16 ? Check.NOT : deeds - 16);
            if (can < 16) {
                Check.due("so many as there are", can == 0 ? 0 : x.undo(can), 0);
            }
            Check.due("none is left", x.told(7), 0);
            Check.due("not one", x.undo(1), Check.NOT);
            Check.due("pages", x.told(0), Math.min(7, deeds - can));
        }
    }

    private static void undoneOneByOneOrAtOnce() {
        for (int first = 0; first <= 16; first++) {
            PageRounds x = new PageRounds(), same = new PageRounds();
            for (PageRounds y : new PageRounds[] {x, same}) {
                y.seed(389);
                y.drift(16);
                y.drift(9);
            }
            for (int i = 0; i < first; i++) {
                Check.due("one by one", x.undo(1), 24 - i);
            }
            Check.due("at once", first == 0 ? 25 : same.undo(first), 25 - first);
            for (int what = 0; what < 8; what++) {
                Check.due("told(" + what + ")", x.told(what), same.told(what));
            }
            for (int k = 0; k < same.told(0); k++) {
                for (int what = 0; what < 9; what++) {
                    Check.due("page", x.page(k, what), same.page(k, what));
                }
            }
            x.drift(16);
            Check.due("sixteen again", x.undo(16), 25 - first);
        }
    }

    private static void undoneEvictions() {
        PageRounds x = tenPages();
        x.packet(1, 0, Check.head(0, 0, 0));
        x.packet(1, 2, 0x01234567L);
        x.packet(1, 6, Check.links(9, 8, 7, 6));
        x.weight(0, 6);
        for (int number = 20; number < 30; number++) {
            x.packet(2, 0, Check.head(number, 0, 0));
        }
        Check.due("it went", x.find(1, 0, 0), Check.NONE);
        Check.due("its book is closed", x.open(1), Check.NONE);
        Check.due("undone", x.undo(1), 22);
        Check.due("it is there", x.find(1, 0, 0), 0);
        Check.due("undone", x.undo(9), 13);
        Check.due("open", x.open(1), 0);
        Check.due("not open", x.open(2), Check.NONE);
        Check.due("letters", x.letter(0, 1, 7), 71);
        Check.due("links", x.link(0, 3), 6);
        Check.due("weight", x.page(0, 4), 6);
        Check.due("heads", x.page(0, 3), 2);
        Check.due("linked", x.page(0, 8), 960);
        x.packet(2, 0, Check.head(20, 0, 0));
        Check.due("1 goes first again", x.find(1, 1, 0), Check.NONE);
        Check.due("0 does not", x.find(1, 0, 0), 0);
    }

    // THE SEED, OCTETS of a PACKET that is not whole stay.
    private static void seedAndOctetsStay() {
        PageRounds x = new PageRounds();
        x.drift(16);
        int seed = x.seed(0);
        x.seed(seed);
        Check.octets(x, 1, 2, 3, 4, 5, 6, 7, 8, 9);
        x.undo(16);
        Check.due("nine octets", x.told(4), 9);
        Check.due("the seed", x.seed(seed), seed);
        x.octet(10);
        Check.due("none", x.told(4), 0);
        x.undo(1);
        Check.due("undone, they do not come again", x.told(4), 0);
        Check.octets(x, 1);
        x.packet(0, 0, 0);
        x.undo(1);
        Check.due("one", x.told(4), 1);
        x.keep(0);
        Check.octets(x, 1);
        x.seed(7);
        x.goBack(0);
        Check.due("two, images have no octets", x.told(4), 2);
        Check.due("but the seed", x.seed(0), seed);
    }

    // goBack(): UNKNOWN, NOT: it was not kept.
    private static void noImages() {
        PageRounds x = onePage();
        Check.due("image 0", x.goBack(0), Check.NOT);
        Check.due("image 1", x.goBack(1), Check.NOT);
        x.keep(1);
        Check.due("image 0 still", x.goBack(0), Check.NOT);
        Check.due("image 1 was kept", x.goBack(1), 1);
        PageRounds y = onePage();
        y.keep(0);
        Check.due("image 1 was not", y.goBack(1), Check.NOT);
        Check.due("image 0 was", y.goBack(0), 1);
        Check.due("a new object has none", new PageRounds().goBack(0), Check.NOT);
    }

    private static void imagesOfNothing() {
        PageRounds x = new PageRounds();
        Check.due("keep", x.keep(0), 1);
        x.drift(16);
        x.packet(0, 0, 0);
        x.seed(9);
        Check.due("go back", x.goBack(0), 1);
        int[] want = {0, 0, 0, 0, 0, 0, Check.NONE, 0};
        for (int what = 0; what < 8; what++) {
            Check.due("told(" + what + ")", x.told(what), want[what]);
        }
        for (int book = 0; book < 4; book++) {
            Check.due("open(" + book + ")", x.open(book), Check.NONE);
        }
        Check.due("page 0", x.page(0, 0), Check.UNKNOWN);
        Check.due("sent", x.sent(0, 0), Check.NONE);
        Check.due("the seed", x.seed(0), 0);
    }

    // IMAGES 0, 1 keep PAGES, which are OPEN, what was counted, THE SEED.
    private static void imagesOfAll() {
        PageRounds x = tenPages(), same = tenPages();
        for (PageRounds y : new PageRounds[] {x, same}) {
            y.packet(1, 5, 0x07654321L);
            y.packet(1, 6, Check.links(0, 1, 2, 3));
            y.packet(0, 6, 0);
            Check.octets(y, Check.tenOctets(1, 7, 0, 0, 0, 0, 0, 0, 0, 0));
            Check.octets(y, Check.tenOctets(1, 1, 0, 1, 0, 2, 0, 4, 0, 8));
            Check.octets(y, 2 ^ 1, 47 ^ 1, 0, 0, 0, 0, 0, 0, 0, 0);
            y.weight(9, 9);
            y.seed(4321);
        }
        x.keep(0);
        x.drift(16);
        for (int k = 9; k >= 0; k--) {
            x.drop(k);
        }
        x.packet(2, 0, 0);
        x.goBack(0);
        for (int what = 0; what < 7; what++) {
            Check.due("told(" + what + ")", x.told(what), same.told(what));
        }
        for (int book = 0; book < 4; book++) {
            Check.due("open(" + book + ")", x.open(book), same.open(book));
        }
        for (int k = 0; k < 10; k++) {
            for (int what = 0; what < 9; what++) {
                Check.due("page(" + k + ", " + what + ")", x.page(k, what), same.page(k, what));
            }
        }
        for (int place = 0; place < 40; place++) {
            Check.due("letter", x.letter(9, place / 8, place % 8), same.letter(9, place / 8, place % 8));
        }
        Check.due("draws go on from the image", x.drift(16), same.drift(16));
        Check.due("lost", x.told(2), same.told(2));
        Check.due("the seed", x.seed(0), same.seed(0));
    }

    private static void imagesStayWhatTheyAre() {
        PageRounds x = onePage();
        x.keep(0);
        x.packet(2, 0, Check.head(6, 0, 0));
        x.keep(1);
        for (int times = 0; times < 3; times++) {
            x.goBack(0);
            Check.due("image 0", x.told(0), 1);
            x.drop(0);
            x.undo(1);
            x.packet(3, 0, 0);
            x.goBack(1);
            Check.due("image 1", x.told(0), 2);
            Check.due("open", x.open(2), 1);
            x.weight(1, 9);
            x.packet(2, 1, 0);
        }
        x.goBack(1);
        Check.due("weight", x.page(1, 4), 1);
        Check.due("rows", x.page(1, 6), 31);
        x.drop(1);
        x.keep(1);
        x.drop(0);
        x.goBack(1);
        Check.due("kept again, it is another", x.told(0), 1);
    }

    // (nothing can be undone then)
    private static void nothingUndoneBehindImages() {
        for (int deeds = 0; deeds < 18; deeds++) {
            PageRounds x = onePage();
            x.keep(1);
            for (int i = 0; i < deeds; i++) {
                x.packet(1, 7, 0);
            }
            Check.due("keep", x.keep(0), 1);
            Check.due("told(7)", x.told(7), 0);
            Check.due("undo", x.undo(1), Check.NOT);
            x.packet(1, 7, 0);
            Check.due("just what comes behind it", x.told(7), 1);
            Check.due("not two", x.undo(2), Check.NOT);
            Check.due("goBack", x.goBack(1), 1);
            Check.due("told(7)", x.told(7), 0);
            Check.due("undo", x.undo(1), Check.NOT);
            x.weight(0, 3);
            Check.due("undo", x.undo(1), 1);
        }
    }
}
