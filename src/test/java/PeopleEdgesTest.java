/** Promises 9 to 11 and 16 to 28: what is told, and what is asked ahead: a sentence, a test. */
public final class PeopleEdgesTest {
    private static final String TWO = "signer 5 1 1;signer 4 2 1;taker 1 20 2;taker 0 1 1;voyage 0;";
    private static final int[] FAR = {Integer.MIN_VALUE, Integer.MAX_VALUE};

    public static void main(String[] args) {
        toldEach();
        toldRefusedSteps();
        toldIllegal();
        signerEach();
        signerTaker();
        signerService();
        signerRefused();
        takerEach();
        takerRefused();
        freeInNotBound();
        freeInSoon();
        freeIn600();
        freeInBeyond900();
        freeInOnce();
        otherwiseSame();
        otherwiseNone();
        aheadNow();
        aheadFree();
        aheadService();
        aheadHungry();
        aheadBeyond900();
        aheadRange();
        givesCut();
        givesWho();
        givesRefused();
        bestNobody();
        bestRoom();
        bestKin();
        bestFirst();
        bestMost();
        bestRange();
        bestForNone();
        partedPairs();
        kinBits();
        fareWho();
        fareCut();
        canPayWho();
        canPayCoins();
        enoughRange();
        levelRange();
        levelNobody();
        hungerRange();
        hungerNone();
        noSuchSigner();
        nothingStaysChanged();
        Bench.end("PeopleEdgesTest");
    }

    private static void told(PassagePapers x, String due) {
        StringBuilder b = new StringBuilder();
        for (int what = 0; what <= 10; what++) b.append(x.told(what)).append(' ');
        Bench.due("told", b.toString(), due);
    }

    private static void toldEach() {
        Bench.sentence(9, "0 SIGNERS, 1 TAKERS, 2 the WEEK, 3 STORES, 4 aboard, 5 ashore, 6 BOUND, 7 FREE,"
                + " 8 lines of the BOOK, 9 STEPS REFUSED by the latest WORK, 10 W");
        PassagePapers x = Bench.opened("signer 1 0 0;".repeat(8) + "taker 0 1 1;taker 0 1 1;stores 20;voyage 1;kinsman 4 13;");
        told(x, "8 2 0 20 8 0 0 0 0 0 1 ");
        Bench.done(x, "week;");
        told(x, "8 2 1 12 8 0 0 0 0 0 1 ");
        Bench.done(x, "land;place 7 1;pay 4;");
        Bench.book(x, "1 1;2 2;3 3;");
        told(x, "8 2 1 12 0 6 1 1 3 0 1 ");
        Bench.work(x, "place 6 0;pay 5;pay 3;");
        told(x, "8 2 1 12 0 5 2 1 3 2 1 ");
    }

    private static void toldRefusedSteps() {
        Bench.sentence(9, "9 STEPS REFUSED by the latest WORK (0 ahead of any, behind undo(), restore())");
        PassagePapers x = Bench.opened(TWO);
        Bench.due("ahead of any", x.told(9), 0);
        Bench.work(x, "again 5[pay 0;];");
        Bench.due("five", x.told(9), 5);
        Bench.due("asked again", x.told(9), 5);
        Bench.law(x, 0, "7");
        Bench.book(x, "1 1;");
        Bench.due("other texts leave it", x.told(9), 5);
        Bench.work(x, "again 2[pay 0;];");
        Bench.due("of the latest alone", x.told(9), 2);
        x.image();
        Bench.due("an image leaves it", x.told(9), 2);
        x.undo();
        Bench.due("behind undo", x.told(9), 0);
        Bench.work(x, "pay 0;");
        Bench.due("one", x.told(9), 1);
        x.restore();
        Bench.due("behind restore", x.told(9), 0);
        Bench.work(x, "pay 0;");
        Bench.work(x, "week;");
        Bench.due("none by the latest", x.told(9), 0);
    }

    private static void toldIllegal() {
        Bench.sentence(9, "IllegalArgumentException: another what");
        PassagePapers x = Bench.opened(TWO);
        Bench.illegal("-1", () -> x.told(-1));
        Bench.illegal("11", () -> x.told(11));
        for (int far : FAR) {
            Bench.illegal("far", () -> x.told(far));
        }
        Bench.fine("0", () -> x.told(0));
        Bench.fine("10", () -> x.told(10));
    }

    private static String signer(PassagePapers x, int signer) {
        StringBuilder b = new StringBuilder();
        for (int what = 0; what <= 9; what++) b.append(x.signer(signer, what)).append(' ');
        return b.toString();
    }

    private static void signerEach() {
        Bench.sentence(10, "0 Y, 1 T, 2 K, 3 0 aboard, 1 ashore, 2 BOUND, 3 FREE, 4 his TAKER, 5 his service,"
                + " 6 months added, 7 WEEKS hungry, 8 1 his paper is lost, 9 coins of his kinsman");
        PassagePapers x = Bench.opened("signer 9 5 4;taker 0 1 1;taker 0 1 1;stores 1;voyage 0;kinsman 0 201;");
        Bench.due("aboard", signer(x, 0), "9 5 4 0 -1 0 0 0 0 201 ");
        Bench.done(x, "week;week;week;lose 0;");
        Bench.due("hungry, lost", signer(x, 0), "9 5 4 0 -1 0 0 2 1 201 ");
        Bench.done(x, "land;");
        Bench.due("ashore", signer(x, 0), "9 5 4 1 -1 0 0 2 1 201 ");
        Bench.done(x, "place 0 1;add 0 13;week;");
        Bench.due("bound", signer(x, 0), "9 5 4 2 1 1 13 2 1 201 ");
        Bench.done(x, "pay 0;");
        Bench.due("free", signer(x, 0), "9 5 4 3 -1 1 13 2 1 72 ");
    }

    private static void signerTaker() {
        Bench.sentence(10, "4 his TAKER (NONE: not BOUND)");
        PassagePapers x = Bench.opened(TWO + "kinsman 0 999;");
        Bench.due("aboard", x.signer(0, 4), -1);
        Bench.done(x, "land;");
        Bench.due("ashore", x.signer(0, 4), -1);
        Bench.done(x, "place 0 0;place 1 1;");
        Bench.due("bound to 0", x.signer(0, 4), 0);
        Bench.due("bound to 1", x.signer(1, 4), 1);
        Bench.done(x, "pay 0;");
        Bench.due("free by pay", x.signer(0, 4), -1);
        Bench.law(x, 0, "0");
        Bench.done(x, "week;");
        Bench.due("free by a week", x.signer(1, 4), -1);
    }

    private static void signerService() {
        Bench.sentence(10, "5 his service (0: he was not placed)");
        PassagePapers x = Bench.opened(TWO + "kinsman 0 999;");
        Bench.done(x, "week;land;week;pay 0;week;");
        Bench.due("free, not placed", x.signer(0, 5), 0);
        Bench.due("ashore", x.signer(1, 5), 0);
        Bench.done(x, "place 1 1;");
        Bench.due("placed just now", x.signer(1, 5), 0);
    }

    private static void signerRefused() {
        Bench.sentence(10, "NoSuchElementException: no such SIGNER, TAKER (so below, ahead of others)");
        PassagePapers x = Bench.opened(TWO);
        Bench.fine("the last", () -> x.signer(1, 9));
        Bench.noSuch("2", () -> x.signer(2, 0));
        Bench.noSuch("-1", () -> x.signer(-1, 0));
        Bench.noSuch("ahead of the other", () -> x.signer(2, 10));
        Bench.noSuch("ahead of the other", () -> x.signer(-1, -1));
        for (int far : FAR) {
            Bench.noSuch("far", () -> x.signer(far, far));
        }
        Bench.due("no illegal one", x.status(1), 0);
        Bench.sentence(10, "IllegalArgumentException: another what");
        Bench.illegal("10", () -> x.signer(0, 10));
        Bench.illegal("-1", () -> x.signer(0, -1));
        for (int far : FAR) {
            Bench.illegal("far", () -> x.signer(0, far));
        }
    }

    private static void takerEach() {
        Bench.sentence(11, "0 T, 1 P, 2 C, 3 how many are BOUND to him");
        PassagePapers x = Bench.opened("signer 1 0 0;signer 1 0 0;signer 1 0 0;taker 5 40 4;taker 0 1 1;voyage 0;");
        Bench.done(x, "land;place 0 0;place 1 0;place 2 1;");
        int[][] due = {{5, 40, 4, 2}, {0, 1, 1, 1}};
        for (int t = 0; t < 2; t++) {
            for (int what = 0; what <= 3; what++) {
                Bench.due("taker " + t + ", what " + what, x.taker(t, what), due[t][what]);
            }
        }
        Bench.law(x, 0, "0");
        Bench.done(x, "week;");
        Bench.due("nobody any more", x.taker(0, 3), 0);
    }

    private static void takerRefused() {
        Bench.sentence(11, "NoSuchElementException (ahead of others), IllegalArgumentException: another what");
        PassagePapers x = Bench.opened(TWO);
        Bench.fine("the last", () -> x.taker(1, 3));
        Bench.noSuch("2", () -> x.taker(2, 0));
        Bench.noSuch("-1", () -> x.taker(-1, 0));
        Bench.noSuch("ahead of the other", () -> x.taker(2, 4));
        Bench.illegal("4", () -> x.taker(0, 4));
        Bench.illegal("-1", () -> x.taker(0, -1));
        for (int far : FAR) {
            Bench.noSuch("far", () -> x.taker(far, far));
            Bench.illegal("far", () -> x.taker(0, far));
        }
    }

    private static void freeInNotBound() {
        Bench.sentence(16, "NONE: not BOUND");
        PassagePapers x = Bench.opened(TWO + "kinsman 0 999;");
        Bench.law(x, 0, "0");
        Bench.due("aboard", x.freeIn(0), -1);
        Bench.done(x, "land;");
        Bench.due("ashore", x.freeIn(0), -1);
        Bench.done(x, "pay 0;");
        Bench.due("free", x.freeIn(0), -1);
    }

    private static void freeInSoon() {
        Bench.sentence(16, "FREE IN .. in how many WEEKS he is FREE (one at least)");
        PassagePapers x = Bench.opened(TWO);
        Bench.done(x, "land;place 0 0;");
        Bench.law(x, 0, "0");
        Bench.due("owes nothing", x.freeIn(0), 1);
        Bench.law(x, 0, "1");
        Bench.due("owes 1", x.freeIn(0), 1);
        Bench.law(x, 0, "2");
        Bench.due("owes 2", x.freeIn(0), 2);
        Bench.done(x, "week;");
        Bench.due("one served", x.freeIn(0), 1);
        Bench.due("bound still", x.signer(0, 3), 2);
    }

    private static void freeIn600() {
        Bench.sentence(16, "of the next 600; NONE: .. or not so soon");
        PassagePapers x = Bench.opened(TWO);
        Bench.done(x, "land;place 0 0;");
        Bench.law(x, 0, "600");
        Bench.due("600", x.freeIn(0), 600);
        Bench.law(x, 0, "601");
        Bench.due("601", x.freeIn(0), -1);
        Bench.law(x, 0, "999");
        Bench.due("999", x.freeIn(0), -1);
        Bench.done(x, "week;");
        Bench.law(x, 0, "601");
        Bench.due("601, one served", x.freeIn(0), 600);
        Bench.law(x, 0, "week+placed+1");
        Bench.due("never", x.freeIn(0), -1);
    }

    /** An object in the last week, one signer bound since week 0 whom the law holds. */
    private static PassagePapers inLastWeek() {
        PassagePapers x = Bench.opened("signer 1 0 0;signer 1 0 0;taker 0 1 1;stores 3;voyage 0;");
        Bench.law(x, 0, "999");
        Bench.done(x, "land;place 0 0;");
        for (int i = 0; i < 5; i++) {
            Bench.done(x, "again 3[again 60[week;];];");
        }
        Bench.due("the last week", x.told(2), 900);
        return x;
    }

    private static void freeInBeyond900() {
        Bench.sentence(16, "WEEKS go by as by week (beyond 900, too)");
        PassagePapers x = inLastWeek();
        Bench.due("999 less 900", x.freeIn(0), 99);
        Bench.law(x, 1, "999+1-(week/950)*999");
        Bench.due("by law 1 in week 950", x.otherwise(0), 50);
        Bench.due("week 900 still", x.told(2), 900);
        Bench.due("no step can go on", Bench.work(x, "week;"), 0);
    }

    private static void freeInOnce() {
        Bench.sentence(16, "in how many WEEKS he is FREE (once he is, he is, whatever is asked then)");
        PassagePapers x = Bench.opened(TWO);
        Bench.done(x, "land;place 0 0;");
        Bench.law(x, 0, "999*(1-week/30)+week/40*999");
        Bench.due("in 30", x.freeIn(0), 30);
        Bench.due("ahead", x.ahead(600, 0), 1);
        Bench.due("service", x.ahead(600, 1), 30);
    }

    private static void otherwiseSame() {
        Bench.sentence(17, "In how many WEEKS he would be FREE, were LAW 1 the court's, too");
        PassagePapers x = Bench.opened(TWO);
        Bench.done(x, "land;place 0 0;week;week;");
        Bench.law(x, 1, "2");
        Bench.due("he would be now: in 1", x.otherwise(0), 1);
        Bench.law(x, 1, "3");
        Bench.due("in 1", x.otherwise(0), 1);
        Bench.law(x, 1, "4");
        Bench.due("in 2", x.otherwise(0), 2);
        Bench.law(x, 0, "0");
        Bench.due("by law 1 alone", x.otherwise(0), 2);
        Bench.law(x, 1, "999*(1-week/9)");
        Bench.due("in week 9", x.otherwise(0), 7);
    }

    private static void otherwiseNone() {
        Bench.sentence(17, "NONE likewise");
        PassagePapers x = Bench.opened(TWO + "kinsman 0 999;");
        Bench.law(x, 1, "0");
        Bench.due("aboard", x.otherwise(0), -1);
        Bench.done(x, "land;");
        Bench.due("ashore", x.otherwise(0), -1);
        Bench.done(x, "place 1 0;pay 0;");
        Bench.due("free", x.otherwise(0), -1);
        Bench.law(x, 1, "600");
        Bench.due("600", x.otherwise(1), 600);
        Bench.law(x, 1, "601");
        Bench.due("601", x.otherwise(1), -1);
    }

    private static void aheadNow() {
        Bench.sentence(18, "in n WEEKS (0 to 600): 0");
        PassagePapers x = Bench.opened(TWO + "stores 0;kinsman 1 999;");
        Bench.due("hungry in none", x.ahead(0, 2), 0);
        Bench.done(x, "land;place 0 0;");
        Bench.law(x, 0, "0");
        Bench.due("free in none", x.ahead(0, 0), 0);
        Bench.due("service in none", x.ahead(0, 1), 0);
        Bench.done(x, "pay 1;");
        Bench.due("one is free", x.ahead(0, 0), 1);
        Bench.due("and one will be", x.ahead(1, 0), 2);
    }

    private static void aheadFree() {
        Bench.sentence(18, "How many are FREE in n WEEKS, nothing else being done (what 0)");
        PassagePapers x = Bench.opened("signer 1 0 0;signer 2 0 0;signer 1 0 0;taker 0 1 2;voyage 0;");
        Bench.done(x, "land;place 0 0;place 1 0;");
        int[][] due = {{51, 0}, {52, 1}, {53, 1}, {103, 1}, {104, 2}, {600, 2}};
        for (int[] d : due) {
            Bench.due("in " + d[0], x.ahead(d[0], 0), d[1]);
        }
        Bench.law(x, 0, "600");
        Bench.due("in 600", x.ahead(600, 0), 2);
        Bench.due("in 599", x.ahead(599, 0), 0);
        Bench.law(x, 0, "601");
        Bench.due("not in 600", x.ahead(600, 0), 0);
    }

    private static void aheadService() {
        Bench.sentence(18, "WEEKS of service in all that will have been done in them (1)");
        PassagePapers x = Bench.opened("signer 1 0 0;signer 2 0 0;signer 1 0 0;taker 0 1 2;voyage 0;");
        Bench.done(x, "land;place 0 0;week;week;place 1 0;");
        Bench.due("1", x.ahead(1, 1), 2);
        Bench.due("50", x.ahead(50, 1), 100);
        Bench.due("51: one is free", x.ahead(51, 1), 101);
        Bench.due("600", x.ahead(600, 1), 154);
        Bench.law(x, 0, "999");
        Bench.due("none is free", x.ahead(600, 1), 1200);
    }

    private static void aheadHungry() {
        Bench.sentence(18, "how often one is hungry in them (2)");
        PassagePapers x = Bench.opened("signer 1 0 0;".repeat(3) + "stores 7;");
        int[] due = {0, 0, 0, 2, 5, 8};
        for (int n = 0; n < due.length; n++) {
            Bench.due("in " + n, x.ahead(n, 2), due[n]);
        }
        Bench.due("in 600", x.ahead(600, 2), 1793);
        Bench.done(x, "again 8[week;];");
        Bench.due("those before are not counted", x.ahead(1, 2), 3);
        Bench.done(x, "land;");
        Bench.due("nobody aboard", x.ahead(600, 2), 0);
    }

    private static void aheadBeyond900() {
        Bench.sentence(18, "WEEKS go by as by week (beyond 900, too)");
        PassagePapers x = inLastWeek();
        Bench.due("98", x.ahead(98, 0), 0);
        Bench.due("99", x.ahead(99, 0), 1);
        Bench.due("service", x.ahead(600, 1), 99);
        Bench.due("a voyage's 98", x.voyage(1, 0, 0, 98, 3), 0);
        Bench.due("a voyage's 99", x.voyage(1, 0, 0, 99, 3), 1);
    }

    private static void aheadRange() {
        Bench.sentence(18, "IllegalArgumentException: n (0 to 600), what (0 to 2)");
        PassagePapers x = Bench.opened(TWO);
        Bench.illegal("n -1", () -> x.ahead(-1, 0));
        Bench.illegal("n 601", () -> x.ahead(601, 0));
        Bench.illegal("what -1", () -> x.ahead(0, -1));
        Bench.illegal("what 3", () -> x.ahead(0, 3));
        for (int far : FAR) {
            Bench.illegal("n far", () -> x.ahead(far, 0));
            Bench.illegal("what far", () -> x.ahead(0, far));
        }
        Bench.illegal("both, one call", () -> x.ahead(-1, 3));
        Bench.due("counted", x.status(1), 9);
    }

    private static void givesCut() {
        Bench.sentence(19, "P by OWES, by 52 (cut); half (cut), if his TRADE is not the one looked for");
        PassagePapers x = Bench.opened("signer 1 3 0;signer 1 2 0;taker 3 40 1;taker 3 1 1;");
        Bench.due("40", x.gives(0, 0), 40);
        Bench.due("20", x.gives(0, 1), 20);
        Bench.due("1", x.gives(1, 0), 1);
        Bench.due("half of 1", x.gives(1, 1), 0);
        Bench.law(x, 0, "51");
        Bench.due("40 by 51 by 52", x.gives(0, 0), 39);
        Bench.due("half of 39", x.gives(0, 1), 19);
        Bench.due("51 by 52", x.gives(1, 0), 0);
        Bench.law(x, 0, "999");
        Bench.due("40 by 999 by 52", x.gives(0, 0), 768);
        Bench.due("999 by 52", x.gives(1, 0), 19);
        Bench.due("half of that", x.gives(1, 1), 9);
        Bench.law(x, 0, "0");
        Bench.due("nothing", x.gives(0, 0), 0);
    }

    private static void givesWho() {
        Bench.sentence(19, "GIVES of a TAKER for a SIGNER (by what he OWES, wherever he is; FREE: nothing)");
        PassagePapers x = Bench.opened("signer 1 0 0;taker 0 26 1;taker 0 26 1;voyage 0;kinsman 0 99;");
        Bench.due("aboard", x.gives(0, 0), 26);
        Bench.done(x, "land;");
        Bench.due("ashore", x.gives(0, 0), 26);
        Bench.done(x, "place 0 0;week;week;");
        Bench.due("bound to him, 50 left", x.gives(0, 0), 25);
        Bench.due("bound to another", x.gives(1, 0), 25);
        Bench.done(x, "pay 0;");
        Bench.due("free", x.gives(0, 0), 0);
    }

    private static void givesRefused() {
        Bench.sentence(19, "throws NoSuchElementException (no such SIGNER, TAKER)");
        PassagePapers x = Bench.opened(TWO);
        Bench.fine("the last of both", () -> x.gives(1, 1));
        for (int bad : new int[] {-1, 2, 5, 8, Integer.MIN_VALUE, Integer.MAX_VALUE}) {
            Bench.noSuch("taker " + bad, () -> x.gives(bad, 0));
            Bench.noSuch("signer " + bad, () -> x.gives(0, bad));
            Bench.noSuch("both " + bad, () -> x.gives(bad, bad));
        }
        Bench.due("one a call", x.status(0), 18);
        PassagePapers y = Bench.opened("signer 1 0 0;signer 1 0 0;taker 0 1 1;");
        Bench.fine("taker 0, signer 1", () -> y.gives(0, 1));
        Bench.noSuch("taker 1, signer 0", () -> y.gives(1, 0));
    }

    private static void best(PassagePapers x, int all, int placed, int... takers) {
        Bench.due("all", x.best(0), all);
        Bench.due("placed", x.best(1), placed);
        for (int s = 0; s < takers.length; s++) {
            Bench.due("signer " + s, x.bestFor(s), takers[s]);
        }
        Bench.due("all once more", x.best(0), all);
    }

    private static void bestNobody() {
        Bench.sentence(20, "those who are ashore (nobody is; no TAKER is; nobody has room)");
        best(new PassagePapers(), 0, 0);
        PassagePapers x = Bench.opened(TWO);
        best(x, 0, 0, -1, -1);
        PassagePapers noTaker = Bench.opened("signer 1 0 0;voyage 0;");
        Bench.done(noTaker, "land;");
        best(noTaker, 0, 0, -1);
        PassagePapers full = Bench.opened("signer 1 0 0;signer 1 0 0;taker 0 1 1;voyage 0;");
        Bench.done(full, "land;place 0 0;");
        best(full, 0, 0, -1, -1);
        PassagePapers allBound = Bench.opened("signer 1 0 0;taker 0 1 4;voyage 0;kinsman 0 99;");
        Bench.done(allBound, "land;place 0 0;");
        best(allBound, 0, 0, -1);
        Bench.done(allBound, "pay 0;");
        best(allBound, 0, 0, -1);
    }

    private static void bestRoom() {
        Bench.sentence(20, "each to a TAKER with room, or not");
        PassagePapers x = Bench.opened("signer 3 0 0;signer 2 0 0;signer 1 0 0;taker 0 10 1;taker 0 5 1;voyage 0;");
        Bench.done(x, "land;");
        best(x, 40, 2, 0, 1, -1);
        Bench.done(x, "place 2 0;");
        best(x, 15, 1, 1, -1, -1);
        PassagePapers y = Bench.opened("signer 1 0 0;".repeat(8) + "taker 0 40 4;taker 0 30 2;taker 0 20 1;voyage 0;");
        Bench.done(y, "land;");
        best(y, 240, 7, -1, 0, 0, 0, 0, 1, 1, 2);
    }

    private static void bestKin() {
        Bench.sentence(20, "of KIN who are ashore all are placed with one TAKER, or none");
        PassagePapers x = Bench.opened("signer 9 0 1;signer 9 0 1;signer 1 0 0;taker 0 40 1;taker 0 40 1;voyage 0;");
        Bench.done(x, "land;");
        best(x, 40, 1, -1, -1, 0);
        Bench.done(x, "place 1 0;");
        // His kin is bound: he is alone ashore and may go with another taker.
        best(x, 360, 1, 1, -1, -1);
        PassagePapers y = Bench.opened("signer 1 0 4;signer 1 0 0;signer 1 0 4;signer 1 0 0;signer 1 0 4;signer 1 0 4;"
                + "taker 0 10 3;taker 0 1 4;voyage 0;");
        Bench.done(y, "land;");
        // Four kin have room with taker 1 alone; the two others with taker 0.
        best(y, 24, 6, 1, 0, 1, 0, 1, 1);
        PassagePapers z = Bench.opened("signer 1 0 2;".repeat(5) + "taker 0 40 4;taker 0 40 4;voyage 0;");
        Bench.done(z, "land;");
        best(z, 0, 0, -1, -1, -1, -1, -1);
    }

    private static void bestFirst() {
        Bench.sentence(20, "of alike ways the first (SIGNER by SIGNER: not placed ahead of TAKER 0, this ahead of 1, ..)");
        PassagePapers x = Bench.opened("signer 1 0 0;signer 1 0 0;signer 1 0 0;taker 0 10 1;taker 0 10 1;voyage 0;");
        Bench.done(x, "land;");
        best(x, 20, 2, -1, 0, 1);
        Bench.law(x, 0, "0");
        best(x, 0, 0, -1, -1, -1);
        PassagePapers y = Bench.opened("signer 1 0 0;signer 1 0 0;taker 0 10 2;taker 0 10 2;taker 0 10 2;taker 0 10 2;taker 0 10 2;voyage 0;");
        Bench.done(y, "land;");
        best(y, 20, 2, 0, 0);
        // 1 for the one who is looked for, 0 (half, cut) for the other: he is not placed.
        PassagePapers z = Bench.opened("signer 1 5 0;signer 1 0 0;taker 0 1 2;voyage 0;");
        Bench.done(z, "land;");
        best(z, 1, 1, -1, 0);
        // Kin by the first of them: 0 and 2 go ahead of 1.
        PassagePapers k = Bench.opened("signer 1 0 1;signer 2 0 0;signer 1 0 1;taker 0 10 2;taker 0 10 2;taker 0 10 1;voyage 0;");
        Bench.done(k, "land;");
        best(k, 40, 3, 0, 1, 0);
    }

    private static void bestMost() {
        Bench.sentence(20, "that by which all GIVES together are most");
        // Who gives most for one alone is not who is to have him: 40 and 30, or 39 and 1.
        PassagePapers x = Bench.opened("signer 1 0 0;signer 1 1 0;taker 0 40 1;taker 1 39 1;voyage 0;");
        Bench.done(x, "land;");
        best(x, 79, 2, 0, 1);
        PassagePapers y = Bench.opened("signer 9 0 0;signer 8 1 0;taker 1 40 1;taker 0 10 1;voyage 0;");
        Bench.done(y, "land;");
        // 8 by 40 and 9 by 10 is 410; 9 by 40 halved and 8 by 10 halved is 220.
        best(y, 410, 2, 1, 0);
        Bench.law(y, 0, "999");
        best(y, 960, 2, 1, 0);
        PassagePapers full = Bench.opened("signer 9 0 0;".repeat(8) + "taker 0 40 4;".repeat(5) + "voyage 0;");
        Bench.law(full, 0, "999");
        Bench.done(full, "land;");
        best(full, 8 * 768, 8, 0, 0, 0, 0, 1, 1, 1, 1);
        PassagePapers last = Bench.opened("signer 9 0 0;" + "signer 1 0 0;".repeat(7)
                + "taker 0 1 1;".repeat(4) + "taker 0 40 1;voyage 0;");
        Bench.done(last, "land;");
        best(last, 364, 5, 4, -1, -1, -1, 0, 1, 2, 3);
        Bench.done(last, "place 0 4;");
        best(last, 4, 4, -1, -1, -1, -1, 0, 1, 2, 3);
    }

    private static void bestRange() {
        Bench.sentence(20, "IllegalArgumentException: another what");
        PassagePapers x = Bench.opened(TWO);
        for (int what : new int[] {-1, 2, Integer.MIN_VALUE, Integer.MAX_VALUE}) {
            Bench.illegal("what " + what, () -> x.best(what));
        }
    }

    private static void bestForNone() {
        Bench.sentence(21, "NONE: not placed by it");
        PassagePapers x = Bench.opened("signer 1 0 0;signer 1 0 0;signer 1 0 0;signer 1 0 0;taker 0 10 2;voyage 0;kinsman 0 13;");
        Bench.due("aboard", x.bestFor(3), -1);
        Bench.done(x, "land;pay 0;place 1 0;");
        Bench.due("free", x.bestFor(0), -1);
        Bench.due("bound", x.bestFor(1), -1);
        Bench.due("no room", x.bestFor(2), -1);
        Bench.due("placed", x.bestFor(3), 0);
    }

    private static void partedPairs() {
        Bench.sentence(22, "pairs of KIN who are BOUND to two unlike TAKERS");
        Bench.due("no signers", new PassagePapers().parted(), 0);
        PassagePapers x = Bench.opened("signer 1 0 1;".repeat(8) + "taker 0 1 4;taker 0 1 4;voyage 0;kinsman 7 13;");
        Bench.done(x, "land;place 0 0;");
        Bench.due("one alone", x.parted(), 0);
        Bench.done(x, "place 1 0;");
        Bench.due("with one taker", x.parted(), 0);
        Bench.done(x, "place 2 1;");
        Bench.due("two pairs", x.parted(), 2);
        Bench.done(x, "place 3 0;place 4 0;place 5 1;place 6 1;place 7 1;");
        Bench.due("four and four", x.parted(), 16);
        Bench.done(x, "pay 7;");
        Bench.due("one is free", x.parted(), 12);
        PassagePapers y = Bench.opened("signer 1 0 1;signer 1 0 2;signer 1 0 0;signer 1 0 0;taker 0 1 2;taker 0 1 2;voyage 0;");
        Bench.done(y, "land;place 0 0;place 1 1;place 2 0;place 3 1;");
        Bench.due("no kin", y.parted(), 0);
    }

    private static void kinBits() {
        Bench.sentence(23, "KIN of a SIGNER (bits; he not)");
        PassagePapers x = Bench.opened("signer 1 0 4;".repeat(8));
        for (int s = 0; s < 8; s++) {
            Bench.due("of " + s, x.kin(s), 255 - (1 << s));
        }
        PassagePapers y = Bench.opened("signer 1 0 0;signer 1 0 0;signer 1 0 1;");
        for (int s = 0; s < 3; s++) {
            Bench.due("none: " + s, y.kin(s), 0);
        }
    }

    private static void fareWho() {
        Bench.sentence(24, "(0: he is FREE; NONE: he is aboard)");
        PassagePapers x = Bench.opened(TWO + "kinsman 0 999;");
        Bench.due("aboard", x.fare(0), -1);
        Bench.done(x, "land;");
        Bench.due("ashore", x.fare(0), 65);
        Bench.done(x, "place 0 0;week;");
        Bench.due("bound, 259 by 4", x.fare(0), 64);
        Bench.done(x, "pay 0;");
        Bench.due("free", x.fare(0), 0);
        Bench.due("so many were gone", x.signer(0, 9), 935);
    }

    private static void fareCut() {
        Bench.sentence(24, "Coins that it takes now for a SIGNER to be FREE by pay (OWES by 4, cut)");
        PassagePapers x = Bench.opened(TWO);
        Bench.done(x, "land;");
        int[][] due = {{0, 0}, {3, 0}, {4, 1}, {7, 1}, {8, 2}, {999, 249}};
        for (int[] d : due) {
            Bench.law(x, 0, Integer.toString(d[0]));
            Bench.due("of " + d[0], x.fare(0), d[1]);
        }
    }

    private static void canPayWho() {
        Bench.sentence(25, "Whether a SIGNER's kinsman can pay now (ashore or BOUND)");
        PassagePapers x = Bench.opened(TWO + "kinsman 0 999;");
        Bench.due("aboard", x.canPay(0), false);
        Bench.done(x, "land;");
        Bench.due("ashore", x.canPay(0), true);
        Bench.due("no kinsman", x.canPay(1), false);
        Bench.done(x, "place 0 0;");
        Bench.due("bound", x.canPay(0), true);
        Bench.done(x, "pay 0;");
        Bench.due("free", x.canPay(0), false);
        Bench.law(x, 0, "0");
        Bench.due("free, nothing asked", x.canPay(0), false);
        Bench.due("nothing asked, no kinsman", x.canPay(1), true);
        Bench.undo(x, 3);
        Bench.due("aboard, nothing asked", x.canPay(1), false);
    }

    private static void canPayCoins() {
        Bench.sentence(25, "has as many coins as OWES by 4 (cut)");
        PassagePapers x = Bench.opened("signer 1 0 0;signer 1 0 0;signer 1 0 0;kinsman 0 12;kinsman 1 13;kinsman 2 14;voyage 0;");
        Bench.done(x, "land;");
        Bench.due("one too few", x.canPay(0), false);
        Bench.due("just as many", x.canPay(1), true);
        Bench.due("one more", x.canPay(2), true);
        Bench.law(x, 0, "51");
        Bench.due("51 by 4 is 12", x.canPay(0), true);
    }

    private static void enoughRange() {
        Bench.sentence(26, "ENOUGH of n (0 to 99)");
        PassagePapers x = Bench.opened("signer 1 0 0;".repeat(8) + "stores 1;voyage 0;");
        Bench.due("0", x.enough(0), 0);
        Bench.due("1", x.enough(1), 8);
        Bench.due("99", x.enough(99), 792);
        Bench.illegal("-1", () -> x.enough(-1));
        Bench.illegal("100", () -> x.enough(100));
        for (int far : FAR) {
            Bench.illegal("far", () -> x.enough(far));
        }
        Bench.done(x, "land;");
        Bench.due("nobody aboard", x.enough(99), 0);
        Bench.illegal("nobody aboard, 100", () -> x.enough(100));
    }

    private static void levelRange() {
        Bench.sentence(27, "no more than a bound each, the greatest by which there are as many (n at most); n (0 to 99)");
        PassagePapers x = Bench.opened("signer 1 0 0;signer 1 0 0;signer 1 0 0;stores 8;");
        Bench.due("0", x.level(0), 0);
        Bench.due("1", x.level(1), 1);
        Bench.due("2", x.level(2), 2);
        Bench.due("3: 9 are not there", x.level(3), 2);
        Bench.due("99", x.level(99), 2);
        Bench.due("just as many", Bench.opened("signer 1 0 0;signer 1 0 0;signer 1 0 0;stores 9;").level(99), 3);
        Bench.due("none", Bench.opened("signer 1 0 0;stores 0;").level(99), 0);
        Bench.due("99 at most", Bench.opened("signer 1 0 0;stores 400;").level(99), 99);
        Bench.due("98", Bench.opened("signer 1 0 0;stores 98;").level(99), 98);
        Bench.illegal("-1", () -> x.level(-1));
        Bench.illegal("100", () -> x.level(100));
        for (int far : FAR) {
            Bench.illegal("far", () -> x.level(far));
        }
    }

    private static void levelNobody() {
        Bench.sentence(27, "NONE: nobody is aboard");
        PassagePapers x = Bench.opened("signer 1 0 0;stores 8;voyage 0;");
        Bench.due("one", x.level(5), 5);
        Bench.done(x, "land;");
        Bench.due("nobody", x.level(5), -1);
        Bench.due("nobody, 0", x.level(0), -1);
        Bench.illegal("nobody, 100", () -> x.level(100));
        Bench.due("no signers", new PassagePapers().level(0), -1);
    }

    private static int hungerOf(int signers, int stores) {
        return Bench.opened("signer 1 0 0;".repeat(signers) + "stores " + stores + ";").hunger();
    }

    private static void hungerRange() {
        Bench.sentence(28, "In how many WEEKS (0 to 99: 0: this one) somebody aboard is hungry first, nobody landing");
        Bench.due("no stores", hungerOf(1, 0), 0);
        Bench.due("one too few", hungerOf(3, 2), 0);
        Bench.due("just for this one", hungerOf(3, 3), 1);
        Bench.due("and a part of the next", hungerOf(3, 5), 1);
        Bench.due("98", hungerOf(1, 98), 98);
        Bench.due("99", hungerOf(1, 99), 99);
        Bench.due("99 for four", hungerOf(4, 399), 99);
        Bench.due("for eight", hungerOf(8, 400), 50);
    }

    private static void hungerNone() {
        Bench.sentence(28, "somebody aboard is hungry first ..; NONE");
        Bench.due("100", hungerOf(1, 100), -1);
        Bench.due("100 for four", hungerOf(4, 400), -1);
        Bench.due("400", hungerOf(1, 400), -1);
        Bench.due("no signers", hungerOf(0, 0), -1);
        PassagePapers x = Bench.opened("signer 1 0 0;stores 0;voyage 0;");
        Bench.done(x, "land;");
        Bench.due("nobody aboard", x.hunger(), -1);
    }

    private static void noSuchSigner() {
        Bench.sentence(16, "throws NoSuchElementException (promises 16, 17, 21, 23, 24, 25)");
        PassagePapers x = Bench.opened(TWO);
        for (int s : new int[] {-1, 2, 8, Integer.MIN_VALUE, Integer.MAX_VALUE}) {
            Bench.noSuch("freeIn " + s, () -> x.freeIn(s));
            Bench.noSuch("otherwise " + s, () -> x.otherwise(s));
            Bench.noSuch("bestFor " + s, () -> x.bestFor(s));
            Bench.noSuch("kin " + s, () -> x.kin(s));
            Bench.noSuch("fare " + s, () -> x.fare(s));
            Bench.noSuch("canPay " + s, () -> x.canPay(s));
        }
        Bench.due("one a call", x.status(0), 30);
        Bench.fine("the last", () -> x.freeIn(1));
        Bench.fine("the last", () -> x.otherwise(1));
        Bench.fine("the last", () -> x.bestFor(1));
        Bench.fine("the last", () -> x.kin(1));
        Bench.fine("the last", () -> x.fare(1));
        Bench.fine("the last", () -> x.canPay(1));
    }

    private static void nothingStaysChanged() {
        Bench.sentence(18, "Asked, nothing stays changed");
        for (String steps : new String[] {"week;pay 0;", "land;place 0 0;week;", "land;place 0 0;week;pay 1;lose 0;"}) {
            PassagePapers x = Bench.opened("signer 5 1 1;signer 4 2 1;signer 1 0 0;taker 1 20 2;taker 0 1 1;"
                    + "voyage 0;stores 3;kinsman 1 999;");
            int refused = Bench.work(x, steps) < 0 ? -1 : x.told(9);
            String before = Bench.picture(x);
            for (int s = 0; s < 3; s++) {
                x.owes(s);
                x.freeIn(s);
                x.otherwise(s);
                x.bestFor(s);
                x.kin(s);
                x.fare(s);
                x.canPay(s);
                x.ask(s, 0);
                x.gives(1, s);
            }
            for (int what = 0; what <= 2; what++) {
                x.ahead(600, what);
                x.voyage(7, 16, 40, 99, what);
                x.span(7, 20, 16, 40, 99, what);
            }
            x.voyage(7, 16, 40, 99, 3);
            x.would(9, 99, 5, 99, 1, 900);
            x.held();
            x.best(0);
            x.parted();
            x.enough(99);
            x.level(99);
            x.hunger();
            x.land(0, 99);
            x.fault();
            x.image();
            Bench.due("as before", Bench.picture(x), before);
            Bench.due("refused steps", x.told(9), refused);
            Bench.due("works", x.count(2), 1);
        }
    }
}
