import java.util.Locale;

/** What the tests share: answers compared with those that are due, and figures for packet(). */
final class Check {
    static final int NONE = -1, UNKNOWN = -1000000001, OUTSIDE = -1000000002, NOT = -1000000003, FULL = -1000000004;
    static final int MIN = Integer.MIN_VALUE, MAX = Integer.MAX_VALUE;

    private static int asked = 0;
    private static int wrong = 0;

    private Check() {
    }

    static void due(String call, long got, long want) {
        asked++;
        if (got != want) {
            wrong++;
            System.out.println(call + " answered " + got + ", due is " + want);
        }
    }

    static void holds(String what, boolean is) {
        due(what, is ? 1 : 0, 1);
    }

    /** Ends the test: exit code 1 if an answer was not the one that is due. */
    static void end() {
        System.out.println(String.format(Locale.ROOT, "%d answers, %d not as due", asked, wrong));
        if (wrong != 0) {
            System.exit(1);
        }
    }

    /** The eight figures of a HEAD. */
    static long head(int number, int part, int flags) {
        return figures(number % 10, number / 10, part, flags, 0, 0, 0, 0);
    }

    /** The eight figures of LINKS; a number below 0 is none. */
    static long links(int a, int b, int c, int d) {
        return figures(units(a), tens(a), units(b), tens(b), units(c), tens(c), units(d), tens(d));
    }

    static long figures(int... eight) {
        long all = 0;
        for (int figure : eight) {
            all = all << 4 | figure;
        }
        return all;
    }

    private static int units(int number) {
        return number < 0 ? 15 : number % 10;
    }

    private static int tens(int number) {
        return number < 0 ? 15 : number / 10;
    }

    /** CODED, from the words of the document. */
    static int coded(int v) {
        int a = v % 2, b = v / 2 % 2, c = v / 4 % 2, d = v / 8 % 2;
        int p = even(a, c, d), q = even(a, b, d), r = even(a, b, c);
        int s = even(p, a, q, b, r, c, d);
        return p + 2 * a + 4 * q + 8 * b + 16 * r + 32 * c + 64 * s + 128 * d;
    }

    private static int even(int... bits) {
        int sum = 0;
        for (int bit : bits) {
            sum += bit;
        }
        return sum % 2 == 0 ? 1 : 0;
    }

    /** What an octet is READ as, from the words of the document; NONE. */
    static int read(int octet) {
        for (int v = 0; v < 16; v++) {
            if (Integer.bitCount(octet ^ coded(v)) < 2) {
                return v;
            }
        }
        return NONE;
    }

    /** 1 if an octet is MENDED, else 0. */
    static int mended(int octet) {
        int v = read(octet);
        return v != NONE && coded(v) != octet ? 1 : 0;
    }

    /** A LETTER that is WELL, of its lower seven bits. */
    static int well(int letter) {
        return Integer.bitCount(letter) % 2 == 1 ? letter : letter + 128;
    }

    /** A LETTER that came wrong, of its lower seven bits. */
    static int spoiled(int letter) {
        return Integer.bitCount(letter) % 2 == 1 ? letter + 128 : letter;
    }

    /** Sends octets singly; the answer of the last. */
    static int octets(PageRounds x, int... all) {
        int last = NONE;
        for (int v : all) {
            last = x.octet(v);
        }
        return last;
    }

    /** Ten octets: book and kind coded, then the eight as they are. */
    static int[] tenOctets(int book, int kind, int... eight) {
        int[] ten = new int[10];
        ten[0] = coded(book);
        ten[1] = coded(kind);
        System.arraycopy(eight, 0, ten, 2, 8);
        return ten;
    }

    /** Ten octets of a packet whose eight are all coded. */
    static int[] codedOctets(int book, int kind, int... eight) {
        int[] them = new int[8];
        for (int i = 0; i < 8; i++) {
            them[i] = coded(eight[i]);
        }
        return tenOctets(book, kind, them);
    }
}
