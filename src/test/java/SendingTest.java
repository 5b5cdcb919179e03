/** Promises 17 to 19. */
public final class SendingTest {
    public static void main(String[] args) {
        noPages();
        onePage();
        inOrder();
        byWeightAndTime();
        byTimesLengthAndWeight();
        byTimesAndLength();
        likeOnes();
        waitsToTheEnd();
        sentRefused();
        waitsRefused();
        bestRules();
        bestRuleIsTheLeastOfLikeOnes();
        Check.end();
    }

    /** Pages of book 0 with so many rows each, so lengths of one more, and weights. */
    private static PageRounds pages(int[] lengths, int[] weights) {
        PageRounds x = new PageRounds();
        for (int k = 0; k < lengths.length; k++) {
            x.packet(0, 0, Check.head(k, 0, 0));
            for (int row = 1; row < lengths[k]; row++) {
                x.packet(0, row, 0);
            }
            x.weight(k, weights[k]);
        }
        return x;
    }

    private static void sends(PageRounds x, int rule, int... want) {
        for (int i = 0; i < want.length; i++) {
            Check.due("sent(" + rule + ", " + i + ")", x.sent(rule, i), want[i]);
        }
    }

    private static void noPages() {
        PageRounds x = new PageRounds();
        for (int rule = 0; rule < 4; rule++) {
            sends(x, rule, Check.NONE, Check.NONE);
            Check.due("waits", x.waits(0, rule, 1), Check.UNKNOWN);
        }
        Check.due("sent(0, 59)", x.sent(0, 59), Check.NONE);
        Check.due("bestRule(1)", x.bestRule(1), Check.NONE);
        Check.due("bestRule(60)", x.bestRule(60), Check.NONE);
        Check.due("outside, though there is no page", x.bestRule(61), Check.OUTSIDE);
        Check.due("outside, though there is no page", x.sent(0, 60), Check.OUTSIDE);
    }

    private static void onePage() {
        PageRounds x = pages(new int[] {4}, new int[] {3});
        for (int rule = 0; rule < 4; rule++) {
            sends(x, rule, 0, 0, 0);
            Check.due("waits", x.waits(0, rule, 60), 4);
        }
        Check.due("bestRule(60)", x.bestRule(60), 0);
    }

    private static void inOrder() {
        PageRounds x = pages(new int[] {1, 6, 2}, new int[] {1, 9, 5});
        sends(x, 0, 0, 1, 2, 0, 1, 2, 0);
        Check.due("sent(0, 59)", x.sent(0, 59), 2);
        Check.due("waits(0, 0, 3)", x.waits(0, 0, 3), 8);
        Check.due("waits(1, 0, 3)", x.waits(1, 0, 3), 7);
        Check.due("waits(2, 0, 3)", x.waits(2, 0, 3), 9);
        Check.due("waits(1, 0, 60)", x.waits(1, 0, 60), 9);
    }

    // Times: 0 sent to 2, 1 to 3, ... ; urgency is the weight times one more than the time since.
    private static void byWeightAndTime() {
        PageRounds x = pages(new int[] {2, 1, 3}, new int[] {1, 2, 6});
        // 0: 1, 2, 6 -> 2 (to 3); 3: 4, 8, 6 -> 1 (to 4); 4: 5, 2, 12 -> 2 (to 7); 7: 8, 8, 6 -> 0 (to 9);
        // 9: 1, 12, 18 -> 2 (to 12); 12: 4, 18, 6 -> 1 (to 13); 13: 5, 2, 12 -> 2
        sends(x, 1, 2, 1, 2, 0, 2, 1, 2);
        Check.due("waits(0, 1, 4)", x.waits(0, 1, 4), 9);
        Check.due("waits(1, 1, 5)", x.waits(1, 1, 5), 8);
        Check.due("waits(1, 1, 6)", x.waits(1, 1, 6), 9);
        Check.due("waits(2, 1, 6)", x.waits(2, 1, 6), 5);
    }

    private static void byTimesLengthAndWeight() {
        PageRounds x = pages(new int[] {2, 1, 3}, new int[] {3, 1, 5});
        // 2/3, 1, 3/5 -> 2; 2/3, 1, 6/5 -> 0; 4/3, 1, 6/5 -> 1; 4/3, 2, 6/5 -> 2; 4/3, 2, 9/5 -> 0; 2, 2, 9/5 -> 2;
        // 2, 2, 12/5 -> 0; 8/3, 2, 12/5 -> 1
        sends(x, 2, 2, 0, 1, 2, 0, 2, 0, 1);
        Check.due("waits(1, 2, 2)", x.waits(1, 2, 2), 5);
        Check.due("waits(1, 2, 8)", x.waits(1, 2, 8), 11);
        Check.due("waits(2, 2, 4)", x.waits(2, 2, 4), 6);
    }

    private static void byTimesAndLength() {
        PageRounds x = pages(new int[] {2, 1, 3}, new int[] {9, 1, 9});
        // 2, 1, 3 -> 1; 2, 2, 3 -> 0; 4, 2, 3 -> 1; 4, 3, 3 -> 1; 4, 4, 3 -> 2; 4, 4, 6 -> 0; 6, 4, 6 -> 1; 6, 5, 6 -> 1
        sends(x, 3, 1, 0, 1, 1, 2, 0, 1, 1);
        Check.due("waits(2, 3, 5)", x.waits(2, 3, 5), 8);
        Check.due("waits(0, 3, 5)", x.waits(0, 3, 5), 5);
    }

    private static void likeOnes() {
        PageRounds x = pages(new int[] {2, 2, 2}, new int[] {4, 4, 4});
        for (int rule = 0; rule < 4; rule++) {
            sends(x, rule, 0, 1, 2, 0, 1, 2, 0);
        }
        PageRounds y = pages(new int[] {4, 2, 6}, new int[] {2, 1, 3});
        sends(y, 2, 0, 1, 2, 0, 1, 2);
    }

    private static void waitsToTheEnd() {
        PageRounds x = pages(new int[] {2, 1, 1}, new int[] {1, 1, 1});
        Check.due("not sent yet", x.waits(2, 0, 2), 3);
        Check.due("not sent at all", x.waits(1, 0, 1), 2);
        Check.due("just sent", x.waits(0, 0, 1), 2);
        Check.due("since its end", x.waits(0, 0, 3), 2);
        Check.due("round", x.waits(0, 0, 4), 4);
        Check.due("as long as ever", x.waits(2, 0, 60), 4);
    }

    private static void sentRefused() {
        PageRounds x = pages(new int[] {1}, new int[] {1});
        for (int rule : new int[] {-1, 4, Check.MIN, Check.MAX}) {
            Check.due("rule " + rule, x.sent(rule, 0), Check.OUTSIDE);
        }
        for (int i : new int[] {-1, 60, Check.MIN, Check.MAX}) {
            Check.due("i " + i, x.sent(3, i), Check.OUTSIDE);
        }
        Check.due("the last", x.sent(3, 59), 0);
        for (int n : new int[] {0, 61, -1, Check.MIN, Check.MAX}) {
            Check.due("bestRule(" + n + ")", x.bestRule(n), Check.OUTSIDE);
        }
    }

    private static void waitsRefused() {
        PageRounds x = pages(new int[] {1}, new int[] {1});
        for (int k : new int[] {-1, 1, 10, Check.MIN, Check.MAX}) {
            Check.due("page " + k, x.waits(k, 0, 1), Check.UNKNOWN);
            Check.due("unknown goes ahead of outside", x.waits(k, 4, 61), Check.UNKNOWN);
        }
        for (int rule : new int[] {-1, 4, Check.MIN, Check.MAX}) {
            Check.due("rule " + rule, x.waits(0, rule, 1), Check.OUTSIDE);
        }
        for (int n : new int[] {0, 61, -1, Check.MIN, Check.MAX}) {
            Check.due("n " + n, x.waits(0, 0, n), Check.OUTSIDE);
        }
        Check.due("asking is no deed", x.told(7), 2);
    }

    private static void bestRules() {
        PageRounds x = pages(new int[] {3, 1, 1}, new int[] {1, 9, 9});
        // By 3: rule 0 ends 3, 4, 5: 9 times 5; rule 1 ends 1: 1, 2: 2, 1: 3 ..: just 18.
        Check.due("bestRule(3)", x.bestRule(3), 1);
        PageRounds y = pages(new int[] {6, 1}, new int[] {1, 2});
        // By 2: rule 0: 1 * 6, 2 * 7; rule 1: 1 * 2, 2 * 1 (page 1 twice: 2 > 1, 2 = 2 -> 0).
        Check.due("sent(1, 0)", y.sent(1, 0), 1);
        Check.due("sent(1, 1)", y.sent(1, 1), 0);
        Check.due("bestRule(2)", y.bestRule(2), 2);
        // By 1: rules 0 and 1 send 0: all wait 2; rule 2 sends 1 as rule 3 does: all wait 1.
        Check.due("rule 2 by 1", pages(new int[] {2, 1}, new int[] {1, 1}).bestRule(1), 2);
        // By 1: rules 0, 1 and 2 (2/2 is 1/1) send 0: 2 times 2; rule 3 sends 1: 2 times 1.
        Check.due("rule 3 by 1", pages(new int[] {2, 1}, new int[] {2, 1}).bestRule(1), 3);
    }

    private static void bestRuleIsTheLeastOfLikeOnes() {
        PageRounds x = pages(new int[] {2, 2}, new int[] {5, 5});
        for (int n = 1; n <= 60; n++) {
            Check.due("bestRule(" + n + ")", x.bestRule(n), 0);
        }
    }
}
