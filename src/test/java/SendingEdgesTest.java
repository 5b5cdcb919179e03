import java.util.ArrayList;
import java.util.Arrays;
import java.util.List;

/** Part 2 of the terms and BEST RULE: no pages, one, ten; like ones; the first sending and the last; what begins anew. */
public final class SendingEdgesTest {
    public static void main(String[] args) {
        noPages();
        onePage();
        inOrderAgainAndAgain();
        firstSendings();
        likeOnesByWeightAndTime();
        likeFractions();
        fractionsNearOneAnother();
        lengthWithoutWeight();
        lengthsAndWeightsOfTheDay();
        waitsFromZero();
        waitsToTheEndOfAll();
        waitsAreTheLongest();
        everySendingAddsToWaits();
        bestOfLikeRules();
        bestRuleByOneAndBySixty();
        everyRuleMayBeBest();
        Check.end();
    }

    /** Pages of book 0 with such lengths (1 .. 7) and weights. */
    private static PageRounds pages(int[] lengths, int[] weights) {
        PageRounds x = new PageRounds();
        for (int k = 0; k < lengths.length; k++) {
            x.packet(0, 0, Check.head(k, 0, 0));
            for (int row = 1; row < Math.min(lengths[k], 6); row++) {
                x.packet(0, row, 0);
            }
            if (lengths[k] == 7) {
                x.packet(0, 6, 0);
            }
            x.weight(k, weights[k]);
        }
        return x;
    }

    private static PageRounds alike(int pages, int length, int weight) {
        int[] lengths = new int[pages], weights = new int[pages];
        Arrays.fill(lengths, length);
        Arrays.fill(weights, weight);
        return pages(lengths, weights);
    }

    private static void sends(PageRounds x, int rule, int... want) {
        for (int i = 0; i < want.length; i++) {
            Check.due("sent(" + rule + ", " + i + ")", x.sent(rule, i), want[i]);
        }
    }

    // NONE: no PAGES.
    private static void noPages() {
        PageRounds dropped = alike(2, 7, 9);
        dropped.drop(1);
        dropped.drop(0);
        for (PageRounds x : new PageRounds[] {new PageRounds(), dropped}) {
            for (int rule = 0; rule < 4; rule++) {
                for (int i : new int[] {0, 1, 58, 59}) {
                    Check.due("sent(" + rule + ", " + i + ")", x.sent(rule, i), Check.NONE);
                }
                Check.due("sent(" + rule + ", 60)", x.sent(rule, 60), Check.OUTSIDE);
                Check.due("sent(" + rule + ", -1)", x.sent(rule, -1), Check.OUTSIDE);
                Check.due("waits of no page", x.waits(0, rule, 1), Check.UNKNOWN);
            }
            Check.due("sent(-1, 0)", x.sent(-1, 0), Check.OUTSIDE);
            Check.due("sent(4, 0)", x.sent(4, 0), Check.OUTSIDE);
            Check.due("bestRule(1)", x.bestRule(1), Check.NONE);
            Check.due("bestRule(60)", x.bestRule(60), Check.NONE);
            Check.due("bestRule(0)", x.bestRule(0), Check.OUTSIDE);
            Check.due("bestRule(61)", x.bestRule(61), Check.OUTSIDE);
        }
    }

    private static void onePage() {
        for (int length = 1; length <= 7; length++) {
            PageRounds x = alike(1, length, length);
            for (int rule = 0; rule < 4; rule++) {
                Check.due("the first", x.sent(rule, 0), 0);
                Check.due("the last", x.sent(rule, 59), 0);
                Check.due("waits by 1", x.waits(0, rule, 1), length);
                Check.due("waits by 60", x.waits(0, rule, 60), length);
            }
            Check.due("all rules are alike", x.bestRule(60), 0);
        }
    }

    // By RULE: 0 in order, again and again
    private static void inOrderAgainAndAgain() {
        for (int n = 1; n <= 10; n++) {
            PageRounds x = alike(n, 1, 1);
            x.weight(n - 1, 9);
            for (int i = 0; i < 60; i++) {
                Check.due(n + " pages: sent(0, " + i + ")", x.sent(0, i), i % n);
            }
        }
    }

    // 1 that of greatest WEIGHT times (TIME since its last end, since 0, if it was not sent, and 1). TIME is 0 at first.
    private static void firstSendings() {
        sends(pages(new int[] {1, 7, 1}, new int[] {1, 2, 1}), 1, 1);
        sends(pages(new int[] {7, 1, 1}, new int[] {3, 2, 9}), 1, 2);
        sends(pages(new int[] {1, 1}, new int[] {1, 1}), 1, 0, 1);
        // Just sent, it counts 1: weight 9 against weight 1 times (7 and 1), then times (14 and 1).
        sends(pages(new int[] {7, 1}, new int[] {9, 1}), 1, 0, 0, 1, 0);
        // Never sent, TIME counts from 0: 2 times (1 and 1) is 4, as 4 times 1.
        sends(pages(new int[] {1, 1}, new int[] {4, 2}), 1, 0, 0, 1, 0);
    }

    // of like ones the least number
    private static void likeOnesByWeightAndTime() {
        for (int rule = 0; rule < 4; rule++) {
            PageRounds x = alike(10, 3, 5);
            for (int i = 0; i < 60; i++) {
                Check.due("ten alike: sent(" + rule + ", " + i + ")", x.sent(rule, i), i % 10);
            }
        }
    }

    // 2 that of least (how often it was sent and 1) times LENGTH, divided by WEIGHT (as fractions)
    private static void likeFractions() {
        sends(pages(new int[] {6, 3, 4, 2}, new int[] {9, 4, 6, 3}), 2, 0, 2, 3, 1, 0, 2, 3, 1);
        sends(pages(new int[] {2, 3}, new int[] {6, 9}), 2, 0, 1, 0, 1);
        sends(pages(new int[] {3, 1}, new int[] {9, 3}), 2, 0, 1, 0, 1);
    }

    private static void fractionsNearOneAnother() {
        // 7/9 is more than 6/8, 5/7, 3/4 and less than 4/5; as whole numbers all are 0.
        sends(pages(new int[] {7, 6}, new int[] {9, 8}), 2, 1, 0);
        sends(pages(new int[] {7, 5}, new int[] {9, 7}), 2, 1, 0);
        sends(pages(new int[] {4, 7}, new int[] {5, 9}), 2, 1, 0);
        // 2 times 1/9 is less than 1/4, 3 times 1/9 is more.
        sends(pages(new int[] {1, 1}, new int[] {4, 9}), 2, 1, 1, 0, 1, 1, 0);
    }

    // 3 that of least (how often it was sent and 1) times LENGTH
    private static void lengthWithoutWeight() {
        sends(pages(new int[] {2, 1}, new int[] {9, 1}), 3, 1, 0, 1, 1, 0, 1);
        sends(pages(new int[] {7, 7, 6}, new int[] {9, 9, 1}), 3, 2, 0, 1, 2, 0, 1);
        PageRounds x = pages(new int[] {1, 7}, new int[] {1, 9});
        for (int i = 0; i < 60; i++) {
            Check.due("sent(3, " + i + ")", x.sent(3, i), i % 8 == 7 ? 1 : 0);
        }
    }

    /** What is sent goes by the pages as they are now, from TIME 0 each time that it is asked. */
    private static void lengthsAndWeightsOfTheDay() {
        PageRounds x = pages(new int[] {2, 1}, new int[] {1, 1});
        sends(x, 3, 1, 0);
        sends(x, 3, 1, 0);
        x.packet(0, 2, 0);
        x.packet(0, 3, 0);
        sends(x, 3, 0, 1, 0);
        Check.due("waits", x.waits(1, 0, 2), 5);
        x.weight(1, 9);
        sends(x, 1, 1);
        sends(x, 2, 1);
        x.undo(1);
        sends(x, 1, 0);
        x.packet(0, 0, Check.head(1, 0, 1));
        Check.due("cleared, it is short again", x.waits(1, 0, 2), 3);
        x.drop(0);
        sends(x, 0, 0, 0);
    }

    // WAIT .. the longest TIME from 0, or its end, to its next end
    private static void waitsFromZero() {
        PageRounds x = pages(new int[] {7, 1, 1}, new int[] {1, 1, 1});
        Check.due("page 0 by 1", x.waits(0, 0, 1), 7);
        Check.due("page 1 by 2", x.waits(1, 0, 2), 8);
        Check.due("page 2 by 3", x.waits(2, 0, 3), 9);
        Check.due("page 2 by 6", x.waits(2, 0, 6), 9);
    }

    // (or to the end of all)
    private static void waitsToTheEndOfAll() {
        PageRounds x = pages(new int[] {7, 1, 1}, new int[] {1, 1, 1});
        Check.due("never sent", x.waits(2, 0, 1), 7);
        Check.due("never sent", x.waits(2, 0, 2), 8);
        PageRounds y = pages(new int[] {1, 7, 7}, new int[] {1, 1, 1});
        Check.due("since its end", y.waits(0, 0, 3), 14);
        Check.due("to its next end", y.waits(0, 0, 4), 15);
        Check.due("longer than to its next end", y.waits(0, 0, 60), 15);
        // By rule 3 page 0 is sent seven times of eight; page 1 of weight 9 not once by seven.
        PageRounds z = pages(new int[] {1, 7}, new int[] {1, 9});
        Check.due("not once", z.waits(1, 3, 7), 7);
        Check.due("once", z.waits(1, 3, 8), 14);
        Check.due("and then nothing", z.waits(1, 3, 15), 14);
    }

    private static void waitsAreTheLongest() {
        // By rule 1: 0 to 7, 0 to 14, 1 to 15, 0 to 22, 0 to 29, 1 to 30 ..
        PageRounds x = pages(new int[] {7, 1}, new int[] {9, 1});
        int[] zero = {7, 7, 7, 8, 8, 8}, one = {7, 14, 15, 15, 15, 15};
        for (int n = 1; n <= 6; n++) {
            Check.due("waits(0, 1, " + n + ")", x.waits(0, 1, n), zero[n - 1]);
            Check.due("waits(1, 1, " + n + ")", x.waits(1, 1, n), one[n - 1]);
        }
    }

    /** WAIT from the pages sent, one by one, for 1 to 60 sendings by each rule. */
    private static void everySendingAddsToWaits() {
        int[] lengths = {7, 1, 3, 6, 2}, weights = {9, 1, 4, 2, 6};
        for (int rule = 0; rule < 4; rule++) {
            List<Integer> sent = new ArrayList<>();
            PageRounds x = pages(lengths, weights);
            for (int n = 1; n <= 60; n++) {
                sent.add(x.sent(rule, n - 1));
                for (int k : new int[] {0, 4}) {
                    Check.due("waits(" + k + ", " + rule + ", " + n + ")", x.waits(k, rule, n), longest(k, sent, lengths));
                }
            }
        }
    }

    private static int longest(int k, List<Integer> sent, int[] lengths) {
        int longest = 0, since = 0;
        for (int page : sent) {
            since += lengths[page];
            longest = Math.max(longest, since);
            since = page == k ? 0 : since;
        }
        return longest;
    }

    // BEST RULE for n sendings: that by which the greatest WEIGHT times WAIT of any PAGE is least; of like ones the least.
    private static void bestOfLikeRules() {
        for (int n = 1; n <= 60; n++) {
            Check.due("all alike by " + n, alike(10, 2, 3).bestRule(n), 0);
        }
        // By 2, rules 1 and 2 send page 1 twice: 9 times 1; rules 0 and 3 send 0, then 1: 9 times 2.
        PageRounds x = pages(new int[] {1, 1}, new int[] {1, 9});
        Check.due("waits by rule 0", x.waits(1, 0, 1), 1);
        Check.due("all wait 1 by 1", x.bestRule(1), 0);
        Check.due("rule 1 by 2", x.bestRule(2), 1);
        Check.due("as good: rule 2", 9 * x.waits(1, 2, 2), 9 * x.waits(1, 1, 2));
    }

    // n sendings (1 .. 60)
    private static void bestRuleByOneAndBySixty() {
        PageRounds x = pages(new int[] {2, 1}, new int[] {2, 1});
        Check.due("by 1", x.bestRule(1), 3);
        PageRounds y = pages(new int[] {7, 7, 7, 7}, new int[] {1, 1, 1, 9});
        Check.due("by 60", y.bestRule(60), best(y, 60, new int[] {1, 1, 1, 9}));
        Check.due("by 59", y.bestRule(59), best(y, 59, new int[] {1, 1, 1, 9}));
        Check.due("not by 61", y.bestRule(61), Check.OUTSIDE);
        Check.due("not by 0", y.bestRule(0), Check.OUTSIDE);
    }

    private static int best(PageRounds x, int n, int[] weights) {
        int best = 0;
        int[] worst = new int[4];
        for (int rule = 0; rule < 4; rule++) {
            for (int k = 0; k < weights.length; k++) {
                worst[rule] = Math.max(worst[rule], weights[k] * x.waits(k, rule, n));
            }
            best = worst[rule] < worst[best] ? rule : best;
        }
        return best;
    }

    private static void everyRuleMayBeBest() {
        int[][] lengths = {{1, 1}, {3, 1, 1}, {2, 1}, {2, 1}}, weights = {{1, 1}, {1, 9, 9}, {1, 1}, {2, 1}};
        int[] n = {60, 3, 1, 1};
        for (int rule = 0; rule < 4; rule++) {
            PageRounds x = pages(lengths[rule], weights[rule]);
            Check.due("best", x.bestRule(n[rule]), rule);
            Check.due("by the waits", best(x, n[rule], weights[rule]), rule);
        }
    }
}
