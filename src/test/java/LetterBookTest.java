/** Promises 20 and 21, and WRONG of told(). */
public final class LetterBookTest {
    public static void main(String[] args) {
        writeAndTear();
        wrongOnes();
        pagesByTheirNumbers();
        full();
        refused();
        Check.end();
    }

    private static PageRounds twoPages() {
        PageRounds x = new PageRounds();
        x.packet(0, 0, Check.head(1, 0, 0));
        x.packet(0, 1, 0x01234567L);
        x.packet(0, 0, Check.head(2, 0, 0));
        Check.octets(x, Check.tenOctets(0, 5, Check.spoiled(65), Check.spoiled(127), Check.well(127), 0, 128, 255, 1, 2));
        return x;
    }

    private static void writeAndTear() {
        PageRounds x = twoPages();
        Check.due("tear nothing", x.tear(), 0);
        Check.due("the first", x.write(0, 0, 0, 64), 1);
        Check.due("the second", x.write(0, 0, 0, 64), 2);
        Check.due("told(5)", x.told(5), 2);
        Check.due("no deeds", x.told(7), 4);
        Check.due("tear", x.tear(), 2);
        Check.due("told(5)", x.told(5), 0);
        Check.due("told(6)", x.told(6), Check.NONE);
        Check.due("the first again", x.write(0, 0, 0, 0), 1);
        Check.due("it is wrong", x.told(6), 0);
    }

    private static void wrongOnes() {
        PageRounds x = twoPages();
        x.write(0, 0, 7, 71);
        x.write(1, 4, 0, 65);
        x.write(1, 4, 1, 127);
        x.write(1, 4, 2, 127);
        x.write(1, 4, 3, 0);
        x.write(1, 4, 4, 0);
        Check.due("sure or not, they are right", x.told(6), Check.NONE);
        x.write(1, 0, 0, 127);
        Check.due("there is none", x.told(6), 6);
        x.write(0, 0, 1, 66);
        Check.due("the first of two", x.told(6), 6);
        x.packet(0, 1, 0);
        Check.due("it is not page 0 that is open", x.letter(1, 0, 0), 64);
        Check.due("otherwise now", x.told(6), 6);
        x.packet(0, 0, Check.head(1, 0, 1));
        Check.due("cleared", x.told(6), 0);
        x.undo(1);
        Check.due("undone", x.told(6), 6);
    }

    private static void pagesByTheirNumbers() {
        PageRounds x = twoPages();
        x.packet(0, 0, Check.head(3, 0, 0));
        x.packet(0, 1, 0x01234567L);
        x.write(0, 0, 3, 67);
        x.write(2, 0, 3, 67);
        Check.due("both are right", x.told(6), Check.NONE);
        x.drop(1);
        Check.due("no page has number 2 any more", x.told(6), 1);
        x.drop(0);
        Check.due("page 0 is another, as right", x.told(6), 1);
        x.drop(0);
        Check.due("no page at all", x.told(6), 0);
        Check.due("the book stays", x.told(5), 2);
    }

    private static void full() {
        PageRounds x = twoPages();
        for (int i = 1; i <= 20; i++) {
            Check.due("entry " + i, x.write(0, 0, 1, 65), i);
        }
        Check.due("full", x.write(0, 0, 1, 65), Check.FULL);
        Check.due("outside goes ahead of full", x.write(0, 5, 1, 65), Check.OUTSIDE);
        Check.due("unknown goes ahead of both", x.write(2, 5, 1, 65), Check.UNKNOWN);
        Check.due("twenty", x.told(5), 20);
        Check.due("tear", x.tear(), 20);
        Check.due("room again", x.write(0, 0, 1, 65), 1);
    }

    private static void refused() {
        PageRounds x = twoPages();
        for (int k : new int[] {-1, 2, 10, Check.MIN, Check.MAX}) {
            Check.due("page " + k, x.write(k, 0, 0, 0), Check.UNKNOWN);
            Check.due("unknown goes ahead of outside", x.write(k, -1, 8, 128), Check.UNKNOWN);
        }
        for (int bad : new int[] {-1, Check.MIN, Check.MAX}) {
            Check.due("row " + bad, x.write(0, bad, 0, 0), Check.OUTSIDE);
            Check.due("place " + bad, x.write(0, 0, bad, 0), Check.OUTSIDE);
            Check.due("letter " + bad, x.write(0, 0, 0, bad), Check.OUTSIDE);
        }
        Check.due("row 5", x.write(0, 5, 0, 0), Check.OUTSIDE);
        Check.due("place 8", x.write(0, 0, 8, 0), Check.OUTSIDE);
        Check.due("letter 128", x.write(0, 0, 0, 128), Check.OUTSIDE);
        Check.due("nothing was written", x.told(5), 0);
        Check.due("the greatest of all", x.write(1, 4, 7, 127), 1);
    }
}
