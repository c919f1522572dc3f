import java.math.BigInteger;

/** Promises 31 to 42: a sentence that names an edge, a test. */
public final class ReckoningEdgesTest {
    private static final int[] FAR = {Integer.MIN_VALUE, Integer.MAX_VALUE};

    public static void main(String[] args) {
        courtEdges();
        courtLeastTerms();
        courtAll();
        courtRange();
        witnessesFewest();
        witnessesNone();
        witnessesRange();
        loanNothing();
        loanWeeks();
        loanGrowsFirst();
        loanNone();
        loanRange();
        landOneByOne();
        landAlike();
        landNobody();
        landRange();
        bidsRests();
        bidsNoRest();
        bidsFirst();
        bidsTogether();
        bidsRange();
        hasMore();
        hasAlike();
        hasLess();
        hasRange();
        voyageDraws();
        voyageWraps();
        voyageSpoiled();
        voyageHungry();
        voyageFree();
        voyageRange();
        spanSeeds();
        spanNobody();
        spanRange();
        imageMost();
        imageOfAll();
        imageOfWorks();
        restoreNone();
        restoreLatest();
        statusCounts();
        statusOfAllCalls();
        statusOthers();
        countEach();
        countOthers();
        Bench.end("ReckoningEdgesTest");
    }

    private static void court(PassagePapers x, int n, int q, long above, long below) {
        Bench.due("above, " + n + " by " + q, x.court(n, q, 0), above);
        Bench.due("below, " + n + " by " + q, x.court(n, q, 1), below);
    }

    private static void courtEdges() {
        Bench.sentence(31, "each says what is so by q of 16 (0: never, 16: always)");
        PassagePapers x = new PassagePapers();
        for (int n = 1; n <= 9; n += 2) {
            court(x, n, 0, 0, 1);
            court(x, n, 16, 1, 1);
            court(x, n, 8, 1, 2);
        }
    }

    private static void courtLeastTerms() {
        Bench.sentence(31, "above (part 0), below (part 1), in least terms");
        PassagePapers x = new PassagePapers();
        court(x, 1, 1, 1, 16);
        court(x, 1, 2, 1, 8);
        court(x, 1, 4, 1, 4);
        court(x, 1, 15, 15, 16);
        court(x, 3, 4, 5, 32);
        court(x, 3, 12, 27, 32);
        court(x, 5, 12, 459, 512);
        // 3 * 225 + 3375 is 4050, of 4096.
        court(x, 3, 15, 2025, 2048);
        court(x, 9, 1, byWays(9, 1)[0].longValueExact(), 1L << 35);
    }

    /** Each way in which n witnesses can speak, one by one. */
    private static BigInteger[] byWays(int n, int q) {
        BigInteger above = BigInteger.ZERO;
        for (int ways = 0; ways < 1 << n; ways++) {
            if (2 * Integer.bitCount(ways) > n) {
                above = above.add(BigInteger.valueOf(q).pow(Integer.bitCount(ways))
                        .multiply(BigInteger.valueOf(16 - q).pow(n - Integer.bitCount(ways))));
            }
        }
        BigInteger below = BigInteger.valueOf(16).pow(n);
        BigInteger common = above.gcd(below);
        return new BigInteger[] {above.divide(common), below.divide(common)};
    }

    private static void courtAll() {
        Bench.sentence(31, "n witnesses (n odd) ..: how likely more than half do (n 1 to 9, odd, q 0 to 16)");
        PassagePapers x = new PassagePapers();
        for (int n = 1; n <= 9; n += 2) {
            for (int q = 0; q <= 16; q++) {
                BigInteger[] due = byWays(n, q);
                court(x, n, q, due[0].longValueExact(), due[1].longValueExact());
            }
        }
    }

    private static void courtRange() {
        Bench.sentence(31, "IllegalArgumentException: n 1 to 9, odd, q 0 to 16, part 0, 1");
        PassagePapers x = new PassagePapers();
        for (int n : new int[] {-1, 0, 2, 4, 6, 8, 10, 11, Integer.MIN_VALUE, Integer.MAX_VALUE}) {
            Bench.illegal("n " + n, () -> x.court(n, 8, 0));
        }
        for (int q : new int[] {-1, 17, Integer.MIN_VALUE, Integer.MAX_VALUE}) {
            Bench.illegal("q " + q, () -> x.court(1, q, 0));
        }
        for (int part : new int[] {-1, 2, Integer.MIN_VALUE, Integer.MAX_VALUE}) {
            Bench.illegal("part " + part, () -> x.court(1, 8, part));
        }
        Bench.illegal("all, one call", () -> x.court(0, 17, 2));
        Bench.due("counted", x.status(1), 19);
    }

    private static void witnessesFewest() {
        Bench.sentence(32, "The fewest witnesses (1 to 9, odd) by whom COURT by q is c of 16 (0 to 16) or more");
        PassagePapers x = new PassagePapers();
        Bench.due("0 of 16 by never", x.witnesses(0, 0), 1);
        Bench.due("16 of 16 by always", x.witnesses(16, 16), 1);
        Bench.due("just as much", x.witnesses(12, 12), 1);
        Bench.due("one more", x.witnesses(12, 13), 3);
        Bench.due("one more", x.witnesses(12, 14), 5);
        Bench.due("nine", x.witnesses(12, 15), 9);
        // By each q and c, as the fractions tell.
        for (int q = 0; q <= 16; q++) {
            for (int c = 0; c <= 16; c++) {
                int fewest = -1;
                for (int n = 9; n >= 1; n -= 2) {
                    BigInteger[] f = byWays(n, q);
                    BigInteger most = f[0].multiply(BigInteger.valueOf(16));
                    fewest = most.compareTo(f[1].multiply(BigInteger.valueOf(c))) >= 0 ? n : fewest;
                }
                Bench.due(c + " of 16 by " + q, x.witnesses(q, c), fewest);
            }
        }
    }

    private static void witnessesNone() {
        Bench.sentence(32, "NONE");
        PassagePapers x = new PassagePapers();
        Bench.due("1 of 16 by never", x.witnesses(0, 1), -1);
        Bench.due("more than half by half", x.witnesses(8, 9), -1);
        Bench.due("16 of 16 by 15", x.witnesses(15, 16), -1);
        Bench.due("below half more are worse", x.witnesses(7, 8), -1);
        Bench.due("one is enough", x.witnesses(7, 7), 1);
    }

    private static void witnessesRange() {
        Bench.sentence(32, "IllegalArgumentException: q, c 0 to 16");
        PassagePapers x = new PassagePapers();
        for (int bad : new int[] {-1, 17, Integer.MIN_VALUE, Integer.MAX_VALUE}) {
            Bench.illegal("q " + bad, () -> x.witnesses(bad, 0));
            Bench.illegal("c " + bad, () -> x.witnesses(0, bad));
        }
    }

    private static void loanNothing() {
        Bench.sentence(33, "0: nothing is owed");
        PassagePapers x = new PassagePapers();
        Bench.due("nothing", x.loan(0, 0, 0), 0);
        Bench.due("nothing, the most paid", x.loan(0, 999, 100), 0);
        Bench.due("nothing, none paid", x.loan(0, 0, 100), 0);
        Bench.due("one", x.loan(1, 1, 0), 1);
    }

    private static void loanWeeks() {
        Bench.sentence(33, "then w is paid: in how many WEEKS nothing is owed");
        PassagePapers x = new PassagePapers();
        Bench.due("more than is owed", x.loan(5, 999, 0), 1);
        Bench.due("just as much", x.loan(999, 999, 0), 1);
        Bench.due("one more", x.loan(1000, 999, 0), 2);
        Bench.due("the most", x.loan(9999, 999, 0), 11);
        Bench.due("599", x.loan(599, 1, 0), 599);
        Bench.due("600", x.loan(600, 1, 0), 600);
    }

    private static void loanGrowsFirst() {
        Bench.sentence(33, "each WEEK first r of 1,000 of what is owed comes to it (cut)");
        PassagePapers x = new PassagePapers();
        Bench.due("100 and 10, 110 paid", x.loan(100, 110, 100), 1);
        Bench.due("100 and 10, 109 paid", x.loan(100, 109, 100), 2);
        Bench.due("9 by 100 of 1,000, cut", x.loan(9, 9, 100), 1);
        Bench.due("10 by 100 of 1,000", x.loan(10, 10, 100), 2);
        Bench.due("999 by 1 of 1,000, cut", x.loan(999, 999, 1), 1);
        Bench.due("1000 by 1 of 1,000", x.loan(1000, 1000 - 1, 1), 2);
        // 1999 and 1 is 2000 less 999; 1001 and 1 less 999 is 3: 3 weeks. Without the cut 1998 would stay.
        Bench.due("1999 by 1 of 1,000", x.loan(1999, 999, 1), 3);
        Bench.due("1998 by 0", x.loan(1998, 999, 0), 2);
    }

    private static void loanNone() {
        Bench.sentence(33, "NONE: not in 600");
        PassagePapers x = new PassagePapers();
        Bench.due("601", x.loan(601, 1, 0), -1);
        Bench.due("none is paid", x.loan(1, 0, 0), -1);
        Bench.due("it stands still", x.loan(100, 10, 100), -1);
        Bench.due("it grows", x.loan(9999, 999, 100), -1);
        Bench.due("it grows past all bounds", x.loan(9999, 0, 100), -1);
        Bench.due("one more is paid than comes", x.loan(9990, 999, 100), -1);
        Bench.due("9989 and 998", x.loan(9989, 999, 100), slowLoan(9989, 999, 100));
    }

    private static int slowLoan(int f, int w, int r) {
        BigInteger owed = BigInteger.valueOf(f);
        for (int weeks = 1; weeks <= 600; weeks++) {
            owed = owed.add(owed.multiply(BigInteger.valueOf(r)).divide(BigInteger.valueOf(1000)));
            owed = owed.subtract(BigInteger.valueOf(w));
            if (owed.signum() <= 0) {
                return weeks;
            }
        }
        return -1;
    }

    private static void loanRange() {
        Bench.sentence(33, "f 0 to 9,999, w 0 to 999, r 0 to 100");
        PassagePapers x = new PassagePapers();
        Bench.fine("the most of each", () -> x.loan(9999, 999, 100));
        Bench.fine("the least of each", () -> x.loan(0, 0, 0));
        for (int far : FAR) {
            Bench.illegal("f", () -> x.loan(far, 0, 0));
            Bench.illegal("w", () -> x.loan(0, far, 0));
            Bench.illegal("r", () -> x.loan(0, 0, far));
        }
        Bench.illegal("f -1", () -> x.loan(-1, 0, 0));
        Bench.illegal("f 10,000", () -> x.loan(10000, 0, 0));
        Bench.illegal("w -1", () -> x.loan(0, -1, 0));
        Bench.illegal("w 1,000", () -> x.loan(0, 1000, 0));
        Bench.illegal("r -1", () -> x.loan(0, 0, -1));
        Bench.illegal("r 101", () -> x.loan(0, 0, 101));
    }

    /** Takers with so many bound to each. */
    private static PassagePapers heads(int... bound) {
        StringBuilder register = new StringBuilder("voyage 0;" + "signer 1 0 0;".repeat(8));
        StringBuilder work = new StringBuilder("land;");
        int signer = 0;
        for (int taker = 0; taker < bound.length; taker++) {
            register.append("taker 0 1 4;");
            for (int i = 0; i < bound[taker]; i++) {
                work.append("place ").append(signer++).append(' ').append(taker).append(';');
            }
        }
        PassagePapers x = Bench.opened(register.toString());
        Bench.done(x, work.toString());
        return x;
    }

    private static void fields(PassagePapers x, int n, int... due) {
        for (int taker = 0; taker < due.length; taker++) {
            Bench.due("of " + n + " to " + taker, x.land(taker, n), due[taker]);
        }
    }

    private static void landOneByOne() {
        Bench.sentence(34, "each to the TAKER whose BOUND by 1 and his fields so far is greatest (as a fraction)");
        PassagePapers x = heads(1, 4, 3);
        fields(x, 0, 0, 0, 0);
        fields(x, 1, 0, 1, 0);
        fields(x, 2, 0, 1, 1);
        fields(x, 3, 0, 2, 1);
        // 1, 4/3, 3/2.
        fields(x, 4, 0, 2, 2);
        fields(x, 5, 0, 3, 2);
        // 1, 1, 1: the first three in turn; then 1/2, 4/5, 3/4.
        fields(x, 6, 1, 3, 2);
        fields(x, 7, 1, 4, 2);
        fields(x, 8, 1, 4, 3);
        fields(x, 9, 1, 5, 3);
        fields(x, 80, 10, 40, 30);
    }

    private static void landAlike() {
        Bench.sentence(34, "of alike ones the first");
        PassagePapers x = heads(2, 2, 2);
        fields(x, 1, 1, 0, 0);
        fields(x, 2, 1, 1, 0);
        fields(x, 3, 1, 1, 1);
        fields(x, 4, 2, 1, 1);
        fields(x, 99, 33, 33, 33);
        // 2/2 and 1/1 are alike fractions.
        PassagePapers y = heads(1, 2);
        fields(y, 2, 1, 1);
    }

    private static void landNobody() {
        Bench.sentence(34, "who has nobody BOUND has none");
        fields(heads(0, 1, 0), 99, 0, 99, 0);
        fields(heads(0, 0), 99, 0, 0);
        fields(heads(0), 0, 0);
        PassagePapers x = heads(1, 1);
        Bench.law(x, 0, "0");
        Bench.done(x, "week;");
        fields(x, 99, 0, 0);
        fields(heads(0, 0, 0, 0, 4), 99, 0, 0, 0, 0, 99);
    }

    private static void landRange() {
        Bench.sentence(34, "Fields of a TAKER by LAND of n (0 to 99)");
        PassagePapers x = heads(1, 1);
        for (int n : new int[] {-1, 100, Integer.MIN_VALUE, Integer.MAX_VALUE}) {
            Bench.illegal("n " + n, () -> x.land(0, n));
        }
        for (int t : new int[] {-1, 2, 5, Integer.MIN_VALUE, Integer.MAX_VALUE}) {
            Bench.noSuch("taker " + t, () -> x.land(t, 1));
            Bench.noSuch("taker " + t + ", another n", () -> x.land(t, 100));
        }
        fields(x, 99, 50, 49);
    }

    private static void bids(int n, int v, int w, int... due) {
        PassagePapers x = new PassagePapers();
        for (int what = 0; what <= 2; what++) {
            Bench.due("bids to " + n + " of " + v + ", " + w + ": " + what, x.bids(n, v, w, what), due[what]);
        }
    }

    private static void bidsRests() {
        Bench.sentence(35, "RESTS: neither would have more by another bid");
        bids(3, 10, 10, 1, 303, 6);
        // There is but one bid: it rests whatever it brings.
        bids(0, 0, 0, 1, 0, 0);
        bids(0, 9, 8, 1, 0, 8);
        bids(0, 99, 99, 1, 0, 98);
        // 0/0, 1/0 and 1/1: nobody would have more than nothing.
        bids(1, 1, 0, 3, 0, 0);
        bids(2, 5, 1, 3, 100, 4);
        bids(20, 99, 99, 1, 2020, 78);
    }

    private static int share(int own, int other, int v) {
        return own > other ? v - own : own == other ? (v - own) / 2 : 0;
    }

    private static int[] slowBids(int n, int v, int w) {
        int[] found = {0, -1, 0};
        for (int a = 0; a <= n; a++) {
            for (int b = 0; b <= n; b++) {
                boolean rests = true;
                for (int other = 0; other <= n; other++) {
                    rests &= share(other, b, v) <= share(a, b, v) && share(other, a, w) <= share(b, a, w);
                }
                if (rests && found[0]++ == 0) {
                    found[1] = 100 * a + b;
                    found[2] = share(a, b, v) + share(b, a, w);
                }
            }
        }
        return found;
    }

    /** By every n, v and w there is a rest, so NONE never is the answer: held against slowBids. */
    private static void bidsNoRest() {
        Bench.sentence(35, "1 the first (.. NONE), 2 what both have by it together (0 without)");
        int without = 0;
        for (int n = 0; n <= 20; n += 4) {
            PassagePapers x = new PassagePapers();
            for (int v = 0; v <= 99; v += 11) {
                for (int w = 0; w <= 24; w += 3) {
                    int[] due = slowBids(n, v, w);
                    for (int what = 0; what <= 2; what++) {
                        Bench.due("bids to " + n + " of " + v + ", " + w + ": " + what, x.bids(n, v, w, what), due[what]);
                    }
                    without += due[0] == 0 ? 1 : 0;
                }
            }
        }
        Bench.due("none is without", without, 0);
    }

    private static void bidsFirst() {
        Bench.sentence(35, "1 the first (100 times the one, and the other one)");
        bids(2, 1, 5, slowBids(2, 1, 5));
        bids(20, 1, 99, slowBids(20, 1, 99));
        bids(20, 99, 1, slowBids(20, 99, 1));
        bids(20, 0, 0, slowBids(20, 0, 0));
        bids(20, 21, 20, slowBids(20, 21, 20));
    }

    private static void bidsTogether() {
        Bench.sentence(35, "2 what both have by it together");
        bids(5, 40, 30, slowBids(5, 40, 30));
        bids(5, 41, 31, slowBids(5, 41, 31));
        bids(1, 0, 0, slowBids(1, 0, 0));
    }

    private static void bidsRange() {
        Bench.sentence(35, "n (0 to 20), v, w (0 to 99)");
        PassagePapers x = new PassagePapers();
        Bench.fine("the most of each", () -> x.bids(20, 99, 99, 2));
        Bench.fine("the least of each", () -> x.bids(0, 0, 0, 0));
        for (int bad : new int[] {-1, 21, Integer.MIN_VALUE, Integer.MAX_VALUE}) {
            Bench.illegal("n " + bad, () -> x.bids(bad, 0, 0, 0));
        }
        for (int bad : new int[] {-1, 100, Integer.MIN_VALUE, Integer.MAX_VALUE}) {
            Bench.illegal("v " + bad, () -> x.bids(1, bad, 0, 0));
            Bench.illegal("w " + bad, () -> x.bids(1, 0, bad, 0));
        }
        for (int bad : new int[] {-1, 3, Integer.MIN_VALUE, Integer.MAX_VALUE}) {
            Bench.illegal("what " + bad, () -> x.bids(1, 0, 0, bad));
        }
    }

    private static void hasMore() {
        Bench.sentence(36, "who bids more has v less his bid");
        PassagePapers x = new PassagePapers();
        Bench.due("1 ahead of 0", x.has(1, 0, 10), 9);
        Bench.due("99 ahead of 98", x.has(99, 98, 99), 0);
        Bench.due("more than it is", x.has(99, 0, 0), -99);
    }

    private static void hasAlike() {
        Bench.sentence(36, "by alike bids each has half of that (cut)");
        PassagePapers x = new PassagePapers();
        Bench.due("10", x.has(0, 0, 10), 5);
        Bench.due("9", x.has(0, 0, 9), 4);
        Bench.due("0", x.has(99, 99, 99), 0);
        Bench.due("1", x.has(98, 98, 99), 0);
        Bench.due("-1", x.has(99, 99, 98), 0);
        Bench.due("-9", x.has(9, 9, 0), -4);
        Bench.due("-99", x.has(99, 99, 0), -49);
        Bench.due("0 of 0", x.has(0, 0, 0), 0);
    }

    private static void hasLess() {
        Bench.sentence(36, "who bids less: 0");
        PassagePapers x = new PassagePapers();
        Bench.due("0 behind 1", x.has(0, 1, 99), 0);
        Bench.due("98 behind 99", x.has(98, 99, 99), 0);
        Bench.due("98 behind 99, for 0", x.has(98, 99, 0), 0);
    }

    private static void hasRange() {
        Bench.sentence(36, "his bid, the other one's (0 to 99 both), v (0 to 99)");
        PassagePapers x = new PassagePapers();
        Bench.fine("the most of each", () -> x.has(99, 99, 99));
        for (int bad : new int[] {-1, 100, Integer.MIN_VALUE, Integer.MAX_VALUE}) {
            Bench.illegal("own " + bad, () -> x.has(bad, 0, 0));
            Bench.illegal("other " + bad, () -> x.has(0, bad, 0));
            Bench.illegal("v " + bad, () -> x.has(0, 0, bad));
        }
    }

    /** The draws of a seed, each 0 to 15, by numbers that do not wrap of themselves. */
    private static int[] draws(int seed, int many) {
        BigInteger all = BigInteger.ONE.shiftLeft(32);
        BigInteger s = BigInteger.valueOf(seed).mod(all);
        int[] drawn = new int[many];
        for (int i = 0; i < many; i++) {
            s = s.multiply(BigInteger.valueOf(1103515245L)).add(BigInteger.valueOf(12345)).mod(all);
            drawn[i] = s.shiftRight(16).mod(BigInteger.valueOf(32768)).mod(BigInteger.valueOf(16)).intValue();
        }
        return drawn;
    }

    private static final int[] SEEDS = {0, 1, 5, -1, 12345, 1103515245, -2000000000, Integer.MAX_VALUE, Integer.MIN_VALUE};

    private static void voyageDraws() {
        Bench.sentence(37, "DRAW by 16 below Q: 2 how often it was below Q (Q 0 to 16)");
        PassagePapers x = Bench.opened("signer 1 0 0;");
        for (int seed : SEEDS) {
            int[] drawn = draws(seed, 99);
            for (int q = 0; q <= 16; q++) {
                int below = 0;
                for (int d : drawn) below += d < q ? 1 : 0;
                Bench.due("seed " + seed + ", " + q, x.voyage(seed, q, 1, 99, 2), below);
            }
        }
        Bench.due("0: never", x.voyage(3, 0, 1, 99, 2), 0);
        Bench.due("16: always", x.voyage(3, 16, 1, 99, 2), 99);
    }

    private static void voyageWraps() {
        Bench.sentence(37, "the SEED (32 bits) becomes itself times 1,103,515,245, and 12,345 (it wraps)");
        PassagePapers x = new PassagePapers();
        for (int seed : SEEDS) {
            for (int weeks = 1; weeks <= 12; weeks++) {
                int[] drawn = draws(seed, weeks);
                int below = 0;
                for (int d : drawn) below += d < 8 ? 1 : 0;
                Bench.due("seed " + seed + ", weeks " + weeks, x.voyage(seed, 8, 0, weeks, 2), below);
            }
        }
    }

    private static void voyageSpoiled() {
        Bench.sentence(37, "spoiled: K of the STORES are gone (as many as there are); then week");
        PassagePapers x = Bench.opened("signer 1 0 0;signer 1 0 0;stores 10;");
        Bench.due("10 less 3 and 2", x.voyage(1, 16, 3, 1, 1), 5);
        Bench.due("5 less 3 and 2", x.voyage(1, 16, 3, 2, 1), 0);
        Bench.due("nobody is hungry so far", x.voyage(1, 16, 3, 2, 0), 0);
        Bench.due("as many as there are", x.voyage(1, 16, 40, 1, 1), 0);
        Bench.due("spoiled ahead of the week", x.voyage(1, 16, 10, 1, 0), 2);
        Bench.due("one is left to eat", x.voyage(1, 16, 9, 1, 0), 1);
        Bench.due("K 0", x.voyage(1, 16, 0, 1, 1), 8);
        Bench.due("never", x.voyage(1, 0, 40, 1, 1), 8);
        Bench.due("stores go by spoiling alone, nobody aboard", new PassagePapers().voyage(1, 16, 40, 1, 1), 20);
        Bench.due("to none", new PassagePapers().voyage(1, 16, 40, 2, 1), 0);
    }

    private static void voyageHungry() {
        Bench.sentence(37, "0 how often one is hungry in them, 1 STORES then");
        PassagePapers x = Bench.opened("signer 1 0 0;signer 1 0 0;signer 1 0 0;stores 7;voyage 0;");
        int[] hungry = {0, 0, 2, 5, 8};
        int[] stores = {4, 1, 0, 0, 0};
        for (int weeks = 1; weeks <= 5; weeks++) {
            Bench.due("hungry in " + weeks, x.voyage(9, 0, 0, weeks, 0), hungry[weeks - 1]);
            Bench.due("stores then", x.voyage(9, 0, 0, weeks, 1), stores[weeks - 1]);
        }
        Bench.done(x, "again 9[week;];");
        Bench.due("those before are not counted", x.voyage(9, 0, 0, 1, 0), 3);
        Bench.done(x, "land;");
        Bench.due("nobody aboard", x.voyage(9, 16, 40, 99, 0), 0);
    }

    private static void voyageFree() {
        Bench.sentence(37, "3 how many are FREE then");
        PassagePapers x = Bench.opened("signer 1 0 0;signer 1 0 0;signer 1 0 0;taker 0 1 2;voyage 0;kinsman 2 99;");
        Bench.due("nobody", x.voyage(9, 0, 0, 99, 3), 0);
        Bench.done(x, "land;place 0 0;pay 2;");
        Bench.due("one is already", x.voyage(9, 0, 0, 51, 3), 1);
        Bench.due("two in 52", x.voyage(9, 0, 0, 52, 3), 2);
        Bench.due("two in 99", x.voyage(9, 16, 40, 99, 3), 2);
        Bench.due("nothing stays changed", x.told(7), 1);
    }

    private static void voyageRange() {
        Bench.sentence(37, "WEEKS (1 to 99), Q (0 to 16), K (0 to 40)");
        PassagePapers x = Bench.opened("signer 1 0 0;");
        Bench.fine("the most of each", () -> x.voyage(Integer.MAX_VALUE, 16, 40, 99, 3));
        Bench.fine("the least of each", () -> x.voyage(Integer.MIN_VALUE, 0, 0, 1, 0));
        for (int far : FAR) {
            Bench.illegal("q", () -> x.voyage(1, far, 0, 1, 0));
            Bench.illegal("k", () -> x.voyage(1, 0, far, 1, 0));
            Bench.illegal("weeks", () -> x.voyage(1, 0, 0, far, 0));
            Bench.illegal("what", () -> x.voyage(1, 0, 0, 1, far));
        }
        Bench.illegal("q -1", () -> x.voyage(1, -1, 0, 1, 0));
        Bench.illegal("q 17", () -> x.voyage(1, 17, 0, 1, 0));
        Bench.illegal("k -1", () -> x.voyage(1, 0, -1, 1, 0));
        Bench.illegal("k 41", () -> x.voyage(1, 0, 41, 1, 0));
        Bench.illegal("weeks 0", () -> x.voyage(1, 0, 0, 0, 0));
        Bench.illegal("weeks 100", () -> x.voyage(1, 0, 0, 100, 0));
        Bench.illegal("what -1", () -> x.voyage(1, 0, 0, 1, -1));
        Bench.illegal("what 4", () -> x.voyage(1, 0, 0, 1, 4));
        Bench.due("counted", x.status(1), 16);
    }

    private static void span(PassagePapers x, int seed, int many, int q, int k, int weeks) {
        int least = Integer.MAX_VALUE;
        int most = 0;
        int nobody = 0;
        for (int i = 0; i < many; i++) {
            int hungry = x.voyage(seed + i, q, k, weeks, 0);
            least = Math.min(least, hungry);
            most = Math.max(most, hungry);
            nobody += hungry == 0 ? 1 : 0;
        }
        Bench.due("least of " + many + " from " + seed, x.span(seed, many, q, k, weeks, 0), least);
        Bench.due("most of " + many + " from " + seed, x.span(seed, many, q, k, weeks, 1), most);
        Bench.due("nobody of " + many + " from " + seed, x.span(seed, many, q, k, weeks, 2), nobody);
    }

    private static void spanSeeds() {
        Bench.sentence(38, "Of so many SEEDS (1 to 20; seed, seed and 1, ..): 0 the least hunger, 1 the most");
        PassagePapers x = Bench.opened("signer 1 0 0;signer 1 0 0;stores 30;");
        for (int many = 1; many <= 20; many++) {
            span(x, 7 * many, many, 4, 9, 9);
        }
        PassagePapers y = Bench.opened("signer 1 0 0;signer 1 0 0;stores 30;");
        span(y, Integer.MAX_VALUE - 3, 20, 4, 9, 9);
        span(y, Integer.MAX_VALUE, 2, 4, 9, 9);
        span(y, -3, 5, 4, 9, 9);
        // By 20 seeds all is alike: 2 weeks of 2 who are hungry.
        Bench.due("least", y.span(1, 20, 0, 0, 17, 0), 4);
        Bench.due("most", y.span(1, 20, 0, 0, 17, 1), 4);
        Bench.due("nobody", y.span(1, 20, 0, 0, 17, 2), 0);
    }

    private static void spanNobody() {
        Bench.sentence(38, "2 by how many nobody is hungry");
        PassagePapers x = Bench.opened("signer 1 0 0;stores 5;voyage 0;");
        Bench.due("all", x.span(1, 20, 0, 0, 5, 2), 20);
        Bench.due("none", x.span(1, 20, 0, 0, 6, 2), 0);
        Bench.due("least of all", x.span(1, 20, 0, 0, 6, 0), 1);
        span(x, 100, 20, 2, 3, 3);
        Bench.done(x, "land;");
        Bench.due("nobody aboard", x.span(1, 20, 16, 40, 99, 2), 20);
        Bench.due("least, nobody aboard", x.span(1, 20, 16, 40, 99, 0), 0);
        Bench.due("most, nobody aboard", x.span(1, 20, 16, 40, 99, 1), 0);
    }

    private static void spanRange() {
        Bench.sentence(38, "so many SEEDS (1 to 20 ..), and as of a VOYAGE");
        PassagePapers x = Bench.opened("signer 1 0 0;");
        Bench.fine("the most of each", () -> x.span(Integer.MAX_VALUE, 20, 16, 40, 99, 2));
        Bench.fine("the least of each", () -> x.span(Integer.MIN_VALUE, 1, 0, 0, 1, 0));
        for (int far : FAR) {
            Bench.illegal("many", () -> x.span(1, far, 0, 0, 1, 0));
            Bench.illegal("q", () -> x.span(1, 1, far, 0, 1, 0));
            Bench.illegal("k", () -> x.span(1, 1, 0, far, 1, 0));
            Bench.illegal("weeks", () -> x.span(1, 1, 0, 0, far, 0));
            Bench.illegal("what", () -> x.span(1, 1, 0, 0, 1, far));
        }
        Bench.illegal("many 0", () -> x.span(1, 0, 0, 0, 1, 0));
        Bench.illegal("many 21", () -> x.span(1, 21, 0, 0, 1, 0));
        Bench.illegal("q -1", () -> x.span(1, 1, -1, 0, 1, 0));
        Bench.illegal("q 17", () -> x.span(1, 1, 17, 0, 1, 0));
        Bench.illegal("k -1", () -> x.span(1, 1, 0, -1, 1, 0));
        Bench.illegal("k 41", () -> x.span(1, 1, 0, 41, 1, 0));
        Bench.illegal("weeks 0", () -> x.span(1, 1, 0, 0, 0, 0));
        Bench.illegal("weeks 100", () -> x.span(1, 1, 0, 0, 100, 0));
        Bench.illegal("what -1", () -> x.span(1, 1, 0, 0, 1, -1));
        Bench.illegal("what 3", () -> x.span(1, 1, 0, 0, 1, 3));
    }

    private static void imageMost() {
        Bench.sentence(39, "how many there are; -1: there are 3");
        PassagePapers x = Bench.opened("signer 1 0 0;");
        Bench.due("first", x.image(), 1);
        Bench.due("second", x.image(), 2);
        Bench.done(x, "week;");
        Bench.due("third", x.image(), 3);
        Bench.done(x, "week;");
        Bench.due("no fourth", x.image(), -1);
        Bench.due("nor again", x.image(), -1);
        Bench.due("three are there", x.count(0), 3);
        Bench.due("no refused call", x.status(0) + x.status(1), 0);
        Bench.due("the third is as it was", x.restore(), 2);
        Bench.due("week", x.told(2), 1);
        Bench.due("room again", x.image(), 3);
    }

    private static void imageOfAll() {
        Bench.sentence(39, "An IMAGE of all that WORK changes");
        PassagePapers x = Bench.opened("signer 5 1 1;signer 4 2 1;taker 1 20 2;taker 0 1 1;voyage 0;stores 3;kinsman 0 99;kinsman 1 99;");
        Bench.done(x, "lose 1;week;week;land;place 0 1;add 0 3;week;");
        Bench.law(x, 1, "placed*10+1");
        String before = Bench.picture(x);
        x.image();
        Bench.done(x, "strike 0;lose 0;copy 1;place 1 0;add 1 24;week;pay 0;pay 1;week;");
        Bench.due("another one now", Bench.picture(x).equals(before), false);
        Bench.due("restored", x.restore(), 0);
        Bench.due("as it was", Bench.picture(x), before);
        Bench.due("placed in week 2", x.asks(0, 1), 21);
        Bench.due("a law is no part of it", x.asks(1, 1), 31);
    }

    private static void imageOfWorks() {
        Bench.sentence(39, "and of the WORKS that can be undone");
        PassagePapers x = Bench.opened("signer 1 0 0;stores 50;kinsman 0 9;");
        String first = Bench.picture(x);
        Bench.done(x, "week;");
        String second = Bench.picture(x);
        Bench.done(x, "week;week;");
        Bench.due("an image with two works", x.image(), 1);
        Bench.undo(x, 2);
        Bench.done(x, "again 5[week;];");
        Bench.done(x, "again 5[week;];");
        Bench.done(x, "again 5[week;];");
        Bench.due("an image with three", x.image(), 2);
        Bench.undo(x, 3);
        Bench.due("an image with none", x.image(), 3);
        Bench.done(x, "again 9[week;];");
        Bench.due("none", x.restore(), 2);
        Bench.due("works", x.count(2), 0);
        Bench.due("nothing to undo", x.undo(), -1);
        Bench.due("three", x.restore(), 1);
        Bench.due("works", x.count(2), 3);
        for (int left = 2; left >= 0; left--) {
            Bench.due("undo", x.undo(), left);
            Bench.due("week", x.told(2), 5 * left);
        }
        Bench.due("two", x.restore(), 0);
        Bench.due("works", x.count(2), 2);
        Bench.due("undo", x.undo(), 1);
        Bench.due("as behind the first work", Bench.picture(x), second);
        Bench.due("undo", x.undo(), 0);
        Bench.due("as at first", Bench.picture(x), first);
    }

    private static void restoreNone() {
        Bench.sentence(40, "-1: there is none");
        PassagePapers x = Bench.opened("signer 1 0 0;");
        Bench.due("a new one", x.restore(), -1);
        Bench.done(x, "week;");
        String before = Bench.picture(x);
        Bench.due("none", x.restore(), -1);
        Bench.due("nothing changed", Bench.picture(x), before);
        Bench.due("works stay", x.count(2), 1);
        x.image();
        x.restore();
        Bench.due("it is gone", x.restore(), -1);
        Bench.due("none is counted", x.count(0), 0);
        Bench.due("no refused call", x.status(0) + x.status(1), 0);
    }

    private static void restoreLatest() {
        Bench.sentence(40, "All is as in the latest IMAGE, which is gone: how many are left");
        PassagePapers x = Bench.opened("signer 1 0 0;");
        for (int i = 1; i <= 3; i++) {
            Bench.done(x, "week;");
            Bench.due("image", x.image(), i);
        }
        Bench.done(x, "week;");
        for (int left = 2; left >= 0; left--) {
            Bench.due("restore", x.restore(), left);
            Bench.due("week", x.told(2), left + 1);
            Bench.due("works", x.count(2), left + 1);
            Bench.due("images", x.count(0), left);
        }
        Bench.due("no more", x.restore(), -1);
        Bench.feed(x, "week;");
        x.image();
        x.restore();
        Bench.due("the tape is no part of it", x.count(1), 20);
    }

    private static void statusCounts() {
        Bench.sentence(41, "How many calls were refused: 0 NoSuchElementException, 1 IllegalArgumentException; (No IMAGE keeps it.)");
        PassagePapers x = Bench.opened("signer 1 0 0;");
        Bench.done(x, "week;");
        Bench.noSuch("one", () -> x.owes(1));
        x.image();
        Bench.noSuch("two", () -> x.signer(1, 99));
        Bench.illegal("one", () -> x.signer(0, 99));
        Bench.illegal("two", () -> x.told(99));
        Bench.illegal("three", () -> x.law(9, 9));
        x.restore();
        Bench.due("no such, behind restore", x.status(0), 2);
        Bench.due("illegal, behind restore", x.status(1), 3);
        x.undo();
        Bench.due("no such, behind undo", x.status(0), 2);
        Bench.due("illegal, behind undo", x.status(1), 3);
        x.restore();
        x.undo();
        Bench.work(x, "pay 0;x");
        Bench.work(x, "pay 0;");
        Bench.due("steps, faults and -1 are no refused calls", x.status(0) + x.status(1), 5);
        Bench.register(x, "signer 1 0 0;");
        Bench.due("a register leaves it", x.status(0), 2);
        Bench.due("a register leaves it", x.status(1), 3);
        Bench.due("another object has its own", new PassagePapers().status(1), 0);
    }

    private static void statusOfAllCalls() {
        Bench.sentence(41, "How many calls were refused (all of the 512 that an object is used for, but the one that asks)");
        PassagePapers x = new PassagePapers();
        PassagePapers y = new PassagePapers();
        for (int i = 0; i < 511; i++) {
            Bench.illegal("told 11", () -> x.told(11));
            Bench.noSuch("owes 0", () -> y.owes(0));
        }
        Bench.due("illegal", x.status(1), 511);
        Bench.due("no such", y.status(0), 511);
    }

    private static void statusOthers() {
        Bench.sentence(41, "NONE for others");
        PassagePapers x = new PassagePapers();
        for (int what : new int[] {-1, 2, Integer.MIN_VALUE, Integer.MAX_VALUE}) {
            Bench.due("what " + what, x.status(what), -1);
        }
        Bench.due("which is no refused call", x.status(1), 0);
    }

    private static void countEach() {
        Bench.sentence(42, "0 IMAGES, 1 bytes of the TAPE, 2 WORKS that can be undone");
        PassagePapers x = Bench.opened("signer 1 0 0;");
        Bench.done(x, "week;");
        Bench.done(x, "week;");
        x.image();
        Bench.feed(x, " ".repeat(60));
        Bench.due("images", x.count(0), 1);
        Bench.due("bytes", x.count(1), 60);
        Bench.due("works", x.count(2), 2);
        x.undo();
        Bench.due("works", x.count(2), 1);
        Bench.feed(x, " ".repeat(540));
        Bench.due("bytes", x.count(1), 600);
    }

    private static void countOthers() {
        Bench.sentence(42, "NONE for others");
        PassagePapers x = new PassagePapers();
        for (int what : new int[] {-1, 3, Integer.MIN_VALUE, Integer.MAX_VALUE}) {
            Bench.due("what " + what, x.count(what), -1);
        }
        Bench.due("which is no refused call", x.status(1), 0);
    }
}
