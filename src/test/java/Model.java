import java.util.ArrayDeque;
import java.util.ArrayList;
import java.util.Arrays;
import java.util.Deque;
import java.util.List;

/** The document's words a second time, in another build than the program's, to hold the program against. */
final class Model {
    private static final class Page {
        int book, number, part, heads, weight = 1;
        Integer[][] letters = new Integer[5][8];
        boolean[][] sure = new boolean[5][8];
        Integer[] links = new Integer[4];

        Page copy() {
            Page p = new Page();
            p.book = book;
            p.number = number;
            p.part = part;
            p.heads = heads;
            p.weight = weight;
            for (int row = 0; row < 5; row++) {
                p.letters[row] = letters[row].clone();
                p.sure[row] = sure[row].clone();
            }
            p.links = links.clone();
            return p;
        }

        boolean has(int row) {
            return Arrays.stream(letters[row]).anyMatch(l -> l != null);
        }

        int length() {
            int length = 1;
            for (int row = 0; row < 5; row++) {
                length += has(row) ? 1 : 0;
            }
            return Arrays.stream(links).anyMatch(l -> l != null) ? length + 1 : length;
        }
    }

    private static final class World {
        List<Page> pages = new ArrayList<>();
        List<Page> byHead = new ArrayList<>();
        Page[] open = new Page[4];
        int came, lost, mended;
        long seed;

        World copy() {
            World w = new World();
            for (Page p : pages) {
                w.pages.add(p.copy());
            }
            for (Page p : byHead) {
                w.byHead.add(w.pages.get(pages.indexOf(p)));
            }
            for (int b = 0; b < 4; b++) {
                w.open[b] = open[b] == null ? null : w.pages.get(pages.indexOf(open[b]));
            }
            w.came = came;
            w.lost = lost;
            w.mended = mended;
            w.seed = seed;
            return w;
        }

        void forget(Page p) {
            pages.remove(p);
            byHead.remove(p);
            for (int b = 0; b < 4; b++) {
                if (open[b] == p) {
                    open[b] = null;
                }
            }
        }
    }

    private World now = new World();
    private final World[] images = new World[2];
    private final Deque<World> ahead = new ArrayDeque<>();
    private final List<int[]> book = new ArrayList<>();
    private final List<Integer> singles = new ArrayList<>();

    private static boolean in(long v, long least, long most) {
        return v >= least && v <= most;
    }

    int coded(int v) {
        return in(v, 0, 15) ? Check.coded(v) : Check.OUTSIDE;
    }

    private static Integer number(int octet) {
        for (int v = 0; v < 16; v++) {
            if (octet == Check.coded(v)) {
                return v;
            }
            for (int bit = 0; bit < 8; bit++) {
                if ((octet ^ 1 << bit) == Check.coded(v)) {
                    return v;
                }
            }
        }
        return null;
    }

    int read(int octet) {
        if (!in(octet, 0, 255)) {
            return Check.OUTSIDE;
        }
        Integer v = number(octet);
        return v == null ? Check.NONE : v;
    }

    private int numberUpTo(int octet, int most) {
        Integer v = number(octet);
        return v == null || v > most ? -1 : v;
    }

    private void mend(List<Integer> octets) {
        for (int octet : octets) {
            Integer v = number(octet);
            if (v != null && Check.coded(v) != octet) {
                now.mended = Math.min(now.mended + 1, 99999);
            }
        }
    }

    private void deed() {
        ahead.addLast(now.copy());
        if (ahead.size() > 16) {
            ahead.removeFirst();
        }
    }

    private int comes(List<Integer> ten) {
        deed();
        now.came++;
        mend(ten.subList(0, 2));
        int b = numberUpTo(ten.get(0), 3), kind = numberUpTo(ten.get(1), 7);
        boolean taken = b >= 0 && kind >= 0 && (kind == 7 || (kind == 0 ? head(b, ten) : content(now.open[b], kind, ten)));
        now.lost += taken ? 0 : 1;
        return taken ? 1 : 0;
    }

    private boolean head(int b, List<Integer> ten) {
        mend(ten.subList(2, 6));
        int units = numberUpTo(ten.get(2), 9), tens = numberUpTo(ten.get(3), 9);
        int part = numberUpTo(ten.get(4), 7), flags = numberUpTo(ten.get(5), 15);
        if (units < 0 || tens < 0 || part < 0 || flags < 0) {
            now.open[b] = null;
            return false;
        }
        int k = find(b, tens * 10 + units, part);
        Page p = k >= 0 ? now.pages.get(k) : null;
        if (p == null) {
            if (now.pages.size() == 10) {
                now.forget(now.byHead.get(0));
            }
            p = new Page();
            p.book = b;
            p.number = tens * 10 + units;
            p.part = part;
            now.pages.add(p);
        }
        now.byHead.remove(p);
        now.byHead.add(p);
        p.heads = Math.min(p.heads + 1, 9999);
        if (flags % 2 == 1) {
            p.letters = new Integer[5][8];
            p.sure = new boolean[5][8];
            p.links = new Integer[4];
        }
        now.open[b] = p;
        return true;
    }

    private boolean content(Page p, int kind, List<Integer> ten) {
        if (p == null) {
            return false;
        }
        if (kind == 6) {
            mend(ten.subList(2, 10));
            for (int j = 0; j < 4; j++) {
                int units = numberUpTo(ten.get(2 + 2 * j), 9), tens = numberUpTo(ten.get(3 + 2 * j), 9);
                if (units >= 0 && tens >= 0) {
                    p.links[j] = tens * 10 + units;
                }
            }
            return true;
        }
        for (int i = 0; i < 8; i++) {
            int octet = ten.get(2 + i);
            boolean well = Integer.bitCount(octet) % 2 == 1;
            if (well || !p.sure[kind - 1][i]) {
                p.letters[kind - 1][i] = octet % 128;
                p.sure[kind - 1][i] = well;
            }
        }
        return true;
    }

    int octet(int v) {
        if (!in(v, 0, 255)) {
            return Check.OUTSIDE;
        }
        singles.add(v);
        if (singles.size() == 10) {
            comes(singles);
            singles.clear();
        }
        return singles.size();
    }

    private static int body(int kind, int figure) {
        return kind == 0 || kind == 6 ? Check.coded(figure) : Check.well(64 + figure);
    }

    int packet(int b, int kind, long eight) {
        if (!in(b, 0, 3) || !in(kind, 0, 7) || eight < 0) {
            return Check.OUTSIDE;
        }
        List<Integer> ten = new ArrayList<>(List.of(Check.coded(b), Check.coded(kind)));
        String figures = String.format("%016x", eight).substring(8);
        for (char figure : figures.toCharArray()) {
            ten.add(body(kind, Character.digit(figure, 16)));
        }
        return comes(ten);
    }

    int told(int what) {
        int[] all = {now.pages.size(), now.came, now.lost, now.mended, singles.size(), book.size(), firstWrong(), ahead.size()};
        return in(what, 0, 7) ? all[what] : Check.OUTSIDE;
    }

    private int firstWrong() {
        for (int e = 0; e < book.size(); e++) {
            int[] entry = book.get(e);
            Integer letter = has(entry[0]) ? now.pages.get(entry[0]).letters[entry[1]][entry[2]] : null;
            if (letter == null || letter != entry[3]) {
                return e;
            }
        }
        return Check.NONE;
    }

    int open(int b) {
        return !in(b, 0, 3) ? Check.UNKNOWN : now.pages.indexOf(now.open[b]);
    }

    private boolean has(int k) {
        return in(k, 0, now.pages.size() - 1);
    }

    int page(int k, int what) {
        if (!has(k)) {
            return Check.UNKNOWN;
        }
        if (!in(what, 0, 8)) {
            return Check.OUTSIDE;
        }
        Page p = now.pages.get(k);
        int lacks = 0, sure = 0, linked = 0;
        for (int row = 0; row < 5; row++) {
            lacks += p.has(row) ? 0 : 1 << row;
            for (boolean is : p.sure[row]) {
                sure += is ? 1 : 0;
            }
        }
        for (int other = 0; other < now.pages.size(); other++) {
            linked += leads(p, now.pages.get(other)) ? 1 << other : 0;
        }
        return new int[] {p.book, p.number, p.part, p.heads, p.weight, p.length(), lacks, sure, linked}[what];
    }

    private static boolean leads(Page p, Page other) {
        return p.book == other.book && Arrays.asList(p.links).contains(other.number);
    }

    int letter(int k, int row, int i) {
        if (!has(k)) {
            return Check.UNKNOWN;
        }
        if (!in(row, 0, 4) || !in(i, 0, 7)) {
            return Check.OUTSIDE;
        }
        Page p = now.pages.get(k);
        Integer letter = p.letters[row][i];
        return letter == null ? Check.NONE : p.sure[row][i] ? letter : letter + 128;
    }

    int link(int k, int j) {
        if (!has(k)) {
            return Check.UNKNOWN;
        }
        if (!in(j, 0, 3)) {
            return Check.OUTSIDE;
        }
        Integer number = now.pages.get(k).links[j];
        return number == null ? Check.NONE : number;
    }

    int far(int k, int other) {
        if (!has(k) || !has(other)) {
            return Check.UNKNOWN;
        }
        int n = now.pages.size();
        int[][] way = new int[n][n];
        for (int a = 0; a < n; a++) {
            for (int b = 0; b < n; b++) {
                way[a][b] = a == b ? 0 : leads(now.pages.get(a), now.pages.get(b)) ? 1 : 1000;
            }
        }
        for (int by = 0; by < n; by++) {
            for (int a = 0; a < n; a++) {
                for (int b = 0; b < n; b++) {
                    way[a][b] = Math.min(way[a][b], way[a][by] + way[by][b]);
                }
            }
        }
        return way[k][other] < 1000 ? way[k][other] : Check.NONE;
    }

    int find(int b, int number, int part) {
        for (int k = 0; k < now.pages.size(); k++) {
            Page p = now.pages.get(k);
            if (p.book == b && p.number == number && p.part == part) {
                return k;
            }
        }
        return Check.NONE;
    }

    int weight(int k, int v) {
        if (!has(k)) {
            return Check.UNKNOWN;
        }
        if (!in(v, 1, 9)) {
            return Check.OUTSIDE;
        }
        deed();
        int was = now.pages.get(k).weight;
        now.pages.get(k).weight = v;
        return was;
    }

    int drop(int k) {
        if (!has(k)) {
            return Check.UNKNOWN;
        }
        deed();
        now.forget(now.pages.get(k));
        return now.pages.size();
    }

    private int draw(int n) {
        now.seed = (now.seed * 1103515245 + 12345) % 2147483648L;
        return (int) (now.seed / 65536 % n);
    }

    int drift(int n) {
        if (!in(n, 1, 16)) {
            return Check.OUTSIDE;
        }
        for (int time = 0; time < n; time++) {
            int b = draw(4), kind = draw(8);
            List<Integer> ten = new ArrayList<>(List.of(Check.coded(b), Check.coded(kind)));
            for (int i = 0; i < 8; i++) {
                ten.add(body(kind, draw(10)));
            }
            int bit = draw(80);
            ten.set(bit / 8, ten.get(bit / 8) ^ 1 << bit % 8);
            comes(ten);
        }
        return now.pages.size();
    }

    int undo(int n) {
        if (!in(n, 1, 16)) {
            return Check.OUTSIDE;
        }
        if (n > ahead.size()) {
            return Check.NOT;
        }
        long seed = now.seed;
        for (int i = 0; i < n; i++) {
            now = ahead.removeLast();
        }
        now.seed = seed;
        return now.came;
    }

    /** The pages sent, one by one. */
    private List<Integer> sendings(int rule, int n) {
        List<Integer> all = new ArrayList<>();
        int time = 0;
        int[] end = new int[10], often = new int[10];
        for (int i = 0; i < n && !now.pages.isEmpty(); i++) {
            int next = i % now.pages.size();
            if (rule > 0) {
                double best = Double.NEGATIVE_INFINITY;
                for (int k = 0; k < now.pages.size(); k++) {
                    Page p = now.pages.get(k);
                    double due = rule == 1 ? p.weight * (time - end[k] + 1)
                        : rule == 2 ? -((often[k] + 1) * p.length() * 2520L / p.weight)
                        : -((often[k] + 1) * p.length());
                    if (due > best) {
                        best = due;
                        next = k;
                    }
                }
            }
            time += now.pages.get(next).length();
            end[next] = time;
            often[next]++;
            all.add(next);
        }
        return all;
    }

    private int longest(int k, List<Integer> sent) {
        List<Integer> marks = new ArrayList<>(List.of(0));
        int time = 0;
        for (int page : sent) {
            time += now.pages.get(page).length();
            if (page == k) {
                marks.add(time);
            }
        }
        marks.add(time);
        int longest = 0;
        for (int m = 1; m < marks.size(); m++) {
            longest = Math.max(longest, marks.get(m) - marks.get(m - 1));
        }
        return longest;
    }

    int sent(int rule, int i) {
        if (!in(rule, 0, 3) || !in(i, 0, 59)) {
            return Check.OUTSIDE;
        }
        return now.pages.isEmpty() ? Check.NONE : sendings(rule, 60).get(i);
    }

    int waits(int k, int rule, int n) {
        if (!has(k)) {
            return Check.UNKNOWN;
        }
        if (!in(rule, 0, 3) || !in(n, 1, 60)) {
            return Check.OUTSIDE;
        }
        return longest(k, sendings(rule, n));
    }

    int bestRule(int n) {
        if (!in(n, 1, 60)) {
            return Check.OUTSIDE;
        }
        int best = Check.NONE, least = Integer.MAX_VALUE;
        for (int rule = 0; rule < 4 && !now.pages.isEmpty(); rule++) {
            int greatest = 0;
            List<Integer> sent = sendings(rule, n);
            for (int k = 0; k < now.pages.size(); k++) {
                greatest = Math.max(greatest, now.pages.get(k).weight * longest(k, sent));
            }
            if (greatest < least) {
                least = greatest;
                best = rule;
            }
        }
        return best;
    }

    int write(int k, int row, int i, int letter) {
        if (!has(k)) {
            return Check.UNKNOWN;
        }
        if (!in(row, 0, 4) || !in(i, 0, 7) || !in(letter, 0, 127)) {
            return Check.OUTSIDE;
        }
        if (book.size() == 20) {
            return Check.FULL;
        }
        book.add(new int[] {k, row, i, letter});
        return book.size();
    }

    int tear() {
        int had = book.size();
        book.clear();
        return had;
    }

    int seed(int v) {
        if (v < 0) {
            return Check.OUTSIDE;
        }
        int was = (int) now.seed;
        now.seed = v;
        return was;
    }

    int keep(int i) {
        if (!in(i, 0, 1)) {
            return Check.UNKNOWN;
        }
        images[i] = now.copy();
        ahead.clear();
        return 1;
    }

    int goBack(int i) {
        if (!in(i, 0, 1)) {
            return Check.UNKNOWN;
        }
        if (images[i] == null) {
            return Check.NOT;
        }
        now = images[i].copy();
        ahead.clear();
        return 1;
    }
}
