import java.util.ArrayList;
import java.util.List;
import java.util.function.Consumer;
import java.util.function.ToLongFunction;

/**
 * Of several refusals the first in the order UNKNOWN, OUTSIDE, NOT, FULL; what is refused changes nothing, nor does what is
 * asked. Two objects get the same calls, one of them a refused call (or a question) more; behind it they answer alike, also
 * what shows later: what is undone, images, the order of heads, draws.
 */
public final class RefusalsTest {
    private record Call(String name, ToLongFunction<PageRounds> on, long due) {
    }

    private record Scene(String name, Consumer<PageRounds> makes, int pages, int deeds, boolean isKept, boolean isFull) {
        PageRounds made() {
            PageRounds x = new PageRounds();
            makes.accept(x);
            return x;
        }
    }

    private static final List<Scene> SCENES = List.of(
        new Scene("a new object", x -> { }, 0, 0, false, false),
        new Scene("three pages", RefusalsTest::threePages, 3, 4, false, false),
        new Scene("all full", RefusalsTest::allFull, 10, 16, true, true));

    public static void main(String[] args) {
        order();
        for (Scene scene : SCENES) {
            changesNothing(scene, refused(scene), true);
            changesNothing(scene, asked(scene), false);
        }
        Check.end();
    }

    private static void threePages(PageRounds x) {
        x.packet(0, 0, Check.head(12, 7, 0));
        x.packet(0, 1, 0x01234567L);
        x.packet(3, 0, Check.head(99, 0, 0));
        x.seed(389);
        x.write(1, 0, 0, 0);
        x.packet(3, 6, Check.links(99, 12, 0, 1));
        x.keep(1);
        x.packet(1, 0, Check.head(5, 5, 0));
        x.packet(1, 0, Check.figures(10, 0, 0, 0, 0, 0, 0, 0));
        Check.octets(x, Check.tenOctets(3, 5, 1 ^ 2, 2, 4, 8, 16, 32, 64, 255));
        x.weight(2, 9);
        Check.octets(x, 2, 21, 73);
    }

    private static void allFull(PageRounds x) {
        x.drift(4);
        x.keep(0);
        for (int number = 0; number < 10; number++) {
            x.packet(number % 4, 0, Check.head(number, 1, 0));
            x.packet(number % 4, 1 + number % 5, 0x01234567L * number);
            x.packet(number % 4, 6, Check.links(number + 4, number, -1, -1));
        }
        for (int entry = 0; entry < 20; entry++) {
            x.write(entry % 10, entry % 5, entry % 8, 64 + entry);
        }
        x.keep(1);
        x.seed(Check.MAX);
        for (int k = 0; k < 10; k++) {
            x.weight(k, 1 + k % 9);
        }
        for (int number : new int[] {6, 2, 7, 0}) {
            x.packet(number % 4, 0, Check.head(number, 1, 14));
        }
        Check.octets(x, Check.tenOctets(2, 7, 1, 2, 3, 4, 5, 6, 7, 8));
        x.packet(0, 1, 0);
        Check.octets(x, 21 ^ 1, 100, 73, 21, 0, 1, 2, 3, 4);
    }

    private static void order() {
        for (Scene scene : SCENES) {
            PageRounds x = scene.made();
            int n = scene.pages;
            Check.due("UNKNOWN ahead of OUTSIDE: page", x.page(n, -1), Check.UNKNOWN);
            Check.due("UNKNOWN ahead of OUTSIDE: page", x.page(-1, 9), Check.UNKNOWN);
            Check.due("UNKNOWN ahead of OUTSIDE: letter", x.letter(n, 5, 8), Check.UNKNOWN);
            Check.due("UNKNOWN ahead of OUTSIDE: link", x.link(n, 4), Check.UNKNOWN);
            Check.due("UNKNOWN ahead of OUTSIDE: weight", x.weight(n, 0), Check.UNKNOWN);
            Check.due("UNKNOWN ahead of OUTSIDE: waits", x.waits(n, 4, 0), Check.UNKNOWN);
            Check.due("UNKNOWN ahead of OUTSIDE (and FULL): write", x.write(n, 5, 8, 128), Check.UNKNOWN);
            Check.due("UNKNOWN (ahead of FULL): write", x.write(n, 0, 0, 0), Check.UNKNOWN);
            Check.due("OUTSIDE ahead of NOT: undo", x.undo(17), Check.OUTSIDE);
            Check.due("OUTSIDE ahead of NOT: undo", x.undo(0), Check.OUTSIDE);
            Check.due("UNKNOWN ahead of NOT: goBack", x.goBack(2), Check.UNKNOWN);
            Check.due("UNKNOWN ahead of NOT: goBack", x.goBack(-1), Check.UNKNOWN);
            if (n > 0) {
                Check.due("OUTSIDE ahead of FULL: row", x.write(0, 5, 0, 0), Check.OUTSIDE);
                Check.due("OUTSIDE ahead of FULL: place", x.write(0, 0, -1, 0), Check.OUTSIDE);
                Check.due("OUTSIDE ahead of FULL: letter", x.write(0, 0, 0, 128), Check.OUTSIDE);
                Check.due("FULL, if nothing else", x.write(0, 0, 0, 0), scene.isFull ? Check.FULL : x.told(5));
            }
        }
    }

    private static List<Call> refused(Scene scene) {
        List<Call> calls = new ArrayList<>();
        outside(calls);
        unknownPages(calls, scene.pages);
        if (scene.pages > 0) {
            outsideOfPages(calls, scene.pages - 1);
        }
        for (int n = scene.deeds + 1; n <= 16; n++) {
            int many = n;
            calls.add(new Call("undo(" + n + ")", x -> x.undo(many), Check.NOT));
        }
        if (!scene.isKept) {
            calls.add(new Call("goBack(0)", x -> x.goBack(0), Check.NOT));
        }
        if (scene.isFull) {
            calls.add(new Call("write(0, 0, 0, 0)", x -> x.write(0, 0, 0, 0), Check.FULL));
            calls.add(new Call("write(9, 4, 7, 127)", x -> x.write(9, 4, 7, 127), Check.FULL));
        }
        return calls;
    }

    private static void outside(List<Call> calls) {
        for (int side : new int[] {0, 1}) {
            calls.add(new Call("coded", x -> x.coded(side == 0 ? -1 : 16), Check.OUTSIDE));
            calls.add(new Call("read", x -> x.read(side == 0 ? -1 : 256), Check.OUTSIDE));
            calls.add(new Call("octet", x -> x.octet(side == 0 ? -1 : 256), Check.OUTSIDE));
            calls.add(new Call("packet, book", x -> x.packet(side == 0 ? -1 : 4, 0, 0), Check.OUTSIDE));
            calls.add(new Call("packet, kind", x -> x.packet(0, side == 0 ? -1 : 8, 0), Check.OUTSIDE));
            calls.add(new Call("packet, eight", x -> x.packet(0, 0, side == 0 ? -1 : Long.MIN_VALUE), Check.OUTSIDE));
            calls.add(new Call("told", x -> x.told(side == 0 ? -1 : 8), Check.OUTSIDE));
            calls.add(new Call("open", x -> x.open(side == 0 ? -1 : 4), Check.UNKNOWN));
            calls.add(new Call("drift", x -> x.drift(side == 0 ? 0 : 17), Check.OUTSIDE));
            calls.add(new Call("undo", x -> x.undo(side == 0 ? 0 : 17), Check.OUTSIDE));
            calls.add(new Call("sent, rule", x -> x.sent(side == 0 ? -1 : 4, 0), Check.OUTSIDE));
            calls.add(new Call("sent, i", x -> x.sent(0, side == 0 ? -1 : 60), Check.OUTSIDE));
            calls.add(new Call("bestRule", x -> x.bestRule(side == 0 ? 0 : 61), Check.OUTSIDE));
            calls.add(new Call("seed", x -> x.seed(side == 0 ? -1 : Check.MIN), Check.OUTSIDE));
            calls.add(new Call("keep", x -> x.keep(side == 0 ? -1 : 2), Check.UNKNOWN));
            calls.add(new Call("goBack", x -> x.goBack(side == 0 ? -1 : 2), Check.UNKNOWN));
        }
    }

    private static void unknownPages(List<Call> calls, int n) {
        for (int k : new int[] {-1, n}) {
            calls.add(new Call("page", x -> x.page(k, 0), Check.UNKNOWN));
            calls.add(new Call("letter", x -> x.letter(k, 0, 0), Check.UNKNOWN));
            calls.add(new Call("link", x -> x.link(k, 0), Check.UNKNOWN));
            calls.add(new Call("far", x -> x.far(k, k), Check.UNKNOWN));
            calls.add(new Call("far, from", x -> x.far(k, 0), Check.UNKNOWN));
            calls.add(new Call("far, to", x -> x.far(0, k), Check.UNKNOWN));
            calls.add(new Call("weight", x -> x.weight(k, 7), Check.UNKNOWN));
            calls.add(new Call("drop", x -> x.drop(k), Check.UNKNOWN));
            calls.add(new Call("waits", x -> x.waits(k, 0, 1), Check.UNKNOWN));
            calls.add(new Call("write", x -> x.write(k, 0, 0, 0), Check.UNKNOWN));
        }
    }

    private static void outsideOfPages(List<Call> calls, int k) {
        for (int side : new int[] {0, 1}) {
            calls.add(new Call("page, what", x -> x.page(k, side == 0 ? -1 : 9), Check.OUTSIDE));
            calls.add(new Call("letter, row", x -> x.letter(k, side == 0 ? -1 : 5, 0), Check.OUTSIDE));
            calls.add(new Call("letter, place", x -> x.letter(k, 0, side == 0 ? -1 : 8), Check.OUTSIDE));
            calls.add(new Call("link, j", x -> x.link(k, side == 0 ? -1 : 4), Check.OUTSIDE));
            calls.add(new Call("weight, v", x -> x.weight(k, side == 0 ? 0 : 10), Check.OUTSIDE));
            calls.add(new Call("waits, rule", x -> x.waits(k, side == 0 ? -1 : 4, 1), Check.OUTSIDE));
            calls.add(new Call("waits, n", x -> x.waits(k, 0, side == 0 ? 0 : 61), Check.OUTSIDE));
            calls.add(new Call("write, row", x -> x.write(k, side == 0 ? -1 : 5, 0, 0), Check.OUTSIDE));
            calls.add(new Call("write, place", x -> x.write(k, 0, side == 0 ? -1 : 8, 0), Check.OUTSIDE));
            calls.add(new Call("write, letter", x -> x.write(k, 0, 0, side == 0 ? -1 : 128), Check.OUTSIDE));
        }
    }

    /** Calls that are no deeds: what they answer is told by other tests, here they must leave all as it is. */
    private static List<Call> asked(Scene scene) {
        List<Call> calls = new ArrayList<>();
        for (int what = 0; what < 8; what++) {
            int which = what;
            calls.add(new Call("told", x -> x.told(which), 0));
            calls.add(new Call("coded", x -> x.coded(which), 0));
            calls.add(new Call("read", x -> x.read(which), 0));
            calls.add(new Call("open", x -> x.open(which % 4), 0));
            calls.add(new Call("find", x -> x.find(which % 4, which, 1), 0));
            calls.add(new Call("sent", x -> x.sent(which % 4, 59 - which), 0));
            calls.add(new Call("bestRule", x -> x.bestRule(60 - which), 0));
        }
        for (int k = 0; k < scene.pages; k++) {
            int page = k;
            calls.add(new Call("page", x -> x.page(page, 8 - page % 9), 0));
            calls.add(new Call("letter", x -> x.letter(page, page % 5, page % 8), 0));
            calls.add(new Call("link", x -> x.link(page, page % 4), 0));
            calls.add(new Call("far", x -> x.far(page, 0), 0));
            calls.add(new Call("waits", x -> x.waits(page, page % 4, 60), 0));
        }
        return calls;
    }

    private static void changesNothing(Scene scene, List<Call> calls, boolean isRefused) {
        List<ToLongFunction<PageRounds>> looks = List.of(RefusalsTest::lookAtPages, RefusalsTest::lookAtLetters,
            RefusalsTest::lookAtUndone, RefusalsTest::lookAtImages, RefusalsTest::lookAtHeads);
        for (int look = 0; look < looks.size(); look++) {
            long want = looks.get(look).applyAsLong(scene.made());
            for (Call call : calls) {
                PageRounds x = scene.made();
                long got = call.on.applyAsLong(x);
                if (isRefused) {
                    Check.due(scene.name + ": " + call.name, got, call.due);
                }
                Check.due(scene.name + ", behind " + call.name + ": look " + look, looks.get(look).applyAsLong(x), want);
            }
        }
    }

    // Answers are taken together into one number, so that two rows of answers are alike if their numbers are.
    private static long join(long all, long answer) {
        return (all ^ answer) * 6364136223846793005L + 1442695040888963407L;
    }

    private static long lookAtPages(PageRounds x) {
        long all = lookAtCounts(x, 0);
        for (int k = 0; k < x.told(0); k++) {
            for (int what = 0; what < 9; what++) {
                all = join(all, x.page(k, what));
            }
            for (int j = 0; j < 4; j++) {
                all = join(all, x.link(k, j));
            }
        }
        return join(all, x.seed(0));
    }

    private static long lookAtCounts(PageRounds x, long all) {
        for (int what = 0; what < 8; what++) {
            all = join(all, x.told(what));
        }
        for (int book = 0; book < 4; book++) {
            all = join(all, x.open(book));
        }
        return all;
    }

    private static long lookAtLetters(PageRounds x) {
        long all = 0;
        for (int k = 0; k < x.told(0); k++) {
            for (int place = 0; place < 40; place++) {
                all = join(all, x.letter(k, place / 8, place % 8));
            }
        }
        return all;
    }

    /** What is undone, one by one; then the octets of the packet that was not whole, and what was in the book of letters. */
    private static long lookAtUndone(PageRounds x) {
        long all = 0;
        for (int deeds = x.told(7); deeds > 0; deeds--) {
            all = lookAtCounts(x, join(all, x.undo(1)));
            all = join(all, x.page(x.told(0) - 1, 4));
        }
        for (int missing = 10 - x.told(4); missing > 0; missing--) {
            all = join(all, x.octet(2));
        }
        return join(lookAtCounts(x, all), x.tear());
    }

    private static long lookAtImages(PageRounds x) {
        long all = x.drift(16);
        for (int i = 0; i < 2; i++) {
            all = join(all, x.goBack(i));
            all = join(all, lookAtPages(x));
            all = join(all, x.drift(2));
        }
        return all;
    }

    /** Heads of ten pages that there are not: whose head came longest ago goes. */
    private static long lookAtHeads(PageRounds x) {
        long all = 0;
        for (int number = 0; number < 10; number++) {
            all = join(all, x.packet(number % 4, 0, Check.head(80 + number, 0, 0)));
            for (int k = 0; k < x.told(0); k++) {
                all = join(all, x.page(k, 1));
            }
        }
        return lookAtCounts(x, all);
    }
}
