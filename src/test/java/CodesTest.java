/** Promises 2 and 3. */
public final class CodesTest {
    private static final int[] CODED = {21, 2, 73, 94, 100, 115, 56, 47, 208, 199, 140, 155, 161, 182, 253, 234};

    public static void main(String[] args) {
        promise2();
        promise3();
        Check.end();
    }

    private static void promise2() {
        PageRounds x = new PageRounds();
        for (int v = 0; v < 16; v++) {
            Check.due("coded(" + v + ")", x.coded(v), CODED[v]);
            Check.due("coded(" + v + ") by the words", x.coded(v), Check.coded(v));
        }
        for (int v : new int[] {-1, 16, 17, -16, Check.MIN, Check.MAX}) {
            Check.due("coded(" + v + ")", x.coded(v), Check.OUTSIDE);
        }
    }

    private static void promise3() {
        PageRounds x = new PageRounds();
        for (int octet = 0; octet < 256; octet++) {
            int want = Check.NONE;
            for (int v = 0; v < 16; v++) {
                if (Integer.bitCount(octet ^ CODED[v]) < 2) {
                    want = v;
                }
            }
            Check.due("read(" + octet + ")", x.read(octet), want);
        }
        Check.due("read of 15 in two bits otherwise", x.read(234 ^ 3), Check.NONE);
        for (int octet : new int[] {-1, 256, 256 + 21, -235, Check.MIN, Check.MAX}) {
            Check.due("read(" + octet + ")", x.read(octet), Check.OUTSIDE);
        }
        Check.due("nothing came", x.told(1), 0);
    }
}
