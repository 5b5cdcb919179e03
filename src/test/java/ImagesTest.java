/** Promises 22 to 24. */
public final class ImagesTest {
    public static void main(String[] args) {
        seeds();
        keepAndGoBack();
        twoImages();
        whatImagesLeave();
        nothingToUndo();
        imagesKeepTheOrderOfHeads();
        imagesAreNotTouched();
        refused();
        Check.end();
    }

    private static void seeds() {
        PageRounds x = new PageRounds();
        Check.due("0 at first", x.seed(2147483647), 0);
        Check.due("the greatest", x.seed(0), 2147483647);
        Check.due("0", x.seed(12), 0);
        Check.due("below 0", x.seed(-1), Check.OUTSIDE);
        Check.due("far below 0", x.seed(Check.MIN), Check.OUTSIDE);
        Check.due("it stays", x.seed(12), 12);
        Check.due("no deed", x.told(7), 0);
    }

    private static PageRounds some() {
        PageRounds x = new PageRounds();
        x.packet(1, 0, Check.head(5, 1, 0));
        x.packet(1, 1, 0);
        x.packet(1, 6, Check.links(5, 6, 7, 8));
        x.packet(2, 1, 0);
        Check.octets(x, 2 ^ 1, 2 ^ 4, 0, 0, 0, 0, 0, 0, 0, 0);
        x.weight(0, 4);
        x.seed(99);
        return x;
    }

    private static void isSome(String when, PageRounds x) {
        int[] told = {1, 5, 1, 2};
        for (int what = 0; what < 4; what++) {
            Check.due(when + ": told(" + what + ")", x.told(what), told[what]);
        }
        int[] page = {1, 5, 1, 1, 4, 3, 30, 8, 1};
        for (int what = 0; what < 9; what++) {
            Check.due(when + ": page(0, " + what + ")", x.page(0, what), page[what]);
        }
        int[] open = {Check.NONE, 0, Check.NONE, Check.NONE};
        for (int book = 0; book < 4; book++) {
            Check.due(when + ": open(" + book + ")", x.open(book), open[book]);
        }
        Check.due(when + ": letter", x.letter(0, 0, 3), x.page(0, 7) == 8 ? x.letter(0, 0, 2) : 64);
        Check.due(when + ": link", x.link(0, 3), 8);
        Check.due(when + ": seed", x.seed(99), 99);
    }

    private static void keepAndGoBack() {
        for (int i = 0; i < 2; i++) {
            PageRounds x = some();
            isSome("ahead", x);
            Check.due("keep", x.keep(i), 1);
            isSome("kept", x);
            x.drift(16);
            x.packet(3, 0, 0);
            x.packet(1, 0, Check.head(5, 1, 1));
            x.seed(4);
            Check.due("goBack", x.goBack(i), 1);
            isSome("back", x);
            x.drop(0);
            Check.due("goBack again", x.goBack(i), 1);
            isSome("back again", x);
        }
    }

    private static void twoImages() {
        PageRounds x = new PageRounds();
        x.keep(0);
        x.packet(1, 0, 0);
        x.seed(5);
        x.keep(1);
        x.goBack(0);
        Check.due("no pages", x.told(0), 0);
        Check.due("not open", x.open(1), Check.NONE);
        Check.due("seed", x.seed(0), 0);
        x.goBack(1);
        Check.due("a page", x.told(0), 1);
        Check.due("open", x.open(1), 0);
        Check.due("seed", x.seed(0), 5);
        x.keep(0);
        x.drop(0);
        x.goBack(0);
        Check.due("image 0 is another now", x.told(0), 1);
    }

    private static void whatImagesLeave() {
        PageRounds x = some();
        x.write(0, 0, 0, 64);
        Check.octets(x, 1, 2);
        x.keep(0);
        x.write(0, 0, 1, 65);
        Check.octets(x, 3);
        x.goBack(0);
        Check.due("octets stay", x.told(4), 3);
        Check.due("the book of letters stays", x.told(5), 2);
        Check.due("and is judged", x.told(6), 1);
        x.tear();
        x.goBack(0);
        Check.due("it does not come back", x.told(5), 0);
    }

    private static void nothingToUndo() {
        PageRounds x = some();
        Check.due("six deeds", x.told(7), 6);
        x.keep(0);
        Check.due("none behind keep", x.told(7), 0);
        Check.due("undo", x.undo(1), Check.NOT);
        x.drop(0);
        Check.due("one deed", x.told(7), 1);
        x.goBack(0);
        Check.due("none behind goBack", x.told(7), 0);
        Check.due("undo", x.undo(1), Check.NOT);
        x.drop(0);
        Check.due("undo the drop", x.undo(1), 5);
        Check.due("a page", x.told(0), 1);
    }

    private static void imagesKeepTheOrderOfHeads() {
        PageRounds x = new PageRounds();
        for (int number = 0; number < 10; number++) {
            x.packet(0, 0, Check.head(number, 0, 0));
        }
        x.keep(1);
        for (int number = 0; number < 5; number++) {
            x.packet(0, 0, Check.head(number, 0, 0));
        }
        x.goBack(1);
        x.packet(0, 0, Check.head(1, 0, 0));
        x.packet(0, 0, Check.head(60, 0, 0));
        x.packet(0, 0, Check.head(61, 0, 0));
        Check.due("0 went", x.find(0, 0, 0), Check.NONE);
        Check.due("2 went", x.find(0, 2, 0), Check.NONE);
        Check.due("1 did not", x.find(0, 1, 0), 0);
        Check.due("3 did not", x.find(0, 3, 0), 1);
    }

    private static void imagesAreNotTouched() {
        PageRounds x = some();
        x.keep(0);
        x.goBack(0);
        x.packet(1, 2, 0);
        x.weight(0, 9);
        x.packet(1, 6, Check.links(9, 9, 9, 9));
        x.goBack(0);
        isSome("untouched", x);
    }

    private static void refused() {
        PageRounds x = some();
        for (int i : new int[] {-1, 2, 3, Check.MIN, Check.MAX}) {
            Check.due("keep(" + i + ")", x.keep(i), Check.UNKNOWN);
            Check.due("goBack(" + i + ")", x.goBack(i), Check.UNKNOWN);
        }
        Check.due("goBack(0)", x.goBack(0), Check.NOT);
        Check.due("goBack(1)", x.goBack(1), Check.NOT);
        x.keep(1);
        x.packet(1, 7, 0);
        Check.due("0 was not kept", x.goBack(0), Check.NOT);
        Check.due("refused: a deed can be undone", x.told(7), 1);
        Check.due("1 was", x.goBack(1), 1);
    }
}
