/** Promises 31 to 42: fractions, loans, land, bids, voyages, images, counts. */
public final class ReckoningTest {
    public static void main(String[] args) {
        court();
        witnesses();
        loan();
        land();
        bids();
        has();
        voyage();
        span();
        images();
        imageKeepsWorks();
        statusAndCount();
        Bench.end("ReckoningTest");
    }

    private static void court() {
        PassagePapers x = new PassagePapers();
        Bench.due("1 by 12, above", x.court(1, 12, 0), 3);
        Bench.due("1 by 12, below", x.court(1, 12, 1), 4);
        Bench.due("3 by 12, above", x.court(3, 12, 0), 27);
        Bench.due("3 by 12, below", x.court(3, 12, 1), 32);
        // 3 * (9/16)^2 * 7/16 + (9/16)^3 = (1701 + 729) / 4096
        Bench.due("3 by 9, above", x.court(3, 9, 0), 1215);
        Bench.due("3 by 9, below", x.court(3, 9, 1), 2048);
        Bench.due("half stays half", x.court(9, 8, 0), 1);
        Bench.due("half stays half", x.court(9, 8, 1), 2);
        Bench.due("never", x.court(7, 0, 0), 0);
        Bench.due("never, below", x.court(7, 0, 1), 1);
        Bench.due("always", x.court(5, 16, 0), 1);
        Bench.due("always, below", x.court(5, 16, 1), 1);
        Bench.due("9 by 1 needs more than 32 bits", x.court(9, 1, 1), 34359738368L);
        Bench.illegal("n 2", () -> x.court(2, 0, 0));
        Bench.illegal("n 0", () -> x.court(0, 0, 0));
        Bench.illegal("n -1", () -> x.court(-1, 0, 0));
        Bench.illegal("n 11", () -> x.court(11, 0, 0));
        Bench.illegal("q 17", () -> x.court(1, 17, 0));
        Bench.illegal("q -1", () -> x.court(1, -1, 0));
        Bench.illegal("part 2", () -> x.court(1, 1, 2));
        Bench.illegal("part -1", () -> x.court(1, 1, -1));
    }

    private static void witnesses() {
        PassagePapers x = new PassagePapers();
        Bench.due("12: 13", x.witnesses(12, 13), 3);
        Bench.due("12: 12", x.witnesses(12, 12), 1);
        // 5 by 12: 459/512 is 14.3 of 16; 3 by 12: 13.5.
        Bench.due("12: 14", x.witnesses(12, 14), 5);
        Bench.due("12: 15", x.witnesses(12, 15), 9);
        Bench.due("12: 16", x.witnesses(12, 16), -1);
        Bench.due("8: 9", x.witnesses(8, 9), -1);
        Bench.due("0: 0", x.witnesses(0, 0), 1);
        Bench.due("16: 16", x.witnesses(16, 16), 1);
        Bench.illegal("q 17", () -> x.witnesses(17, 0));
        Bench.illegal("q -1", () -> x.witnesses(-1, 0));
        Bench.illegal("c 17", () -> x.witnesses(0, 17));
        Bench.illegal("c -1", () -> x.witnesses(0, -1));
    }

    private static void loan() {
        PassagePapers x = new PassagePapers();
        Bench.due("100, 30, 0", x.loan(100, 30, 0), 4);
        Bench.due("100, 60, 100", x.loan(100, 60, 100), 2);
        Bench.due("first it grows", x.loan(100, 109, 100), 2);
        Bench.due("first it grows", x.loan(100, 110, 100), 1);
        Bench.due("stands still", x.loan(100, 10, 100), -1);
        Bench.due("grows past all bounds", x.loan(9999, 0, 100), -1);
        Bench.due("nothing owed", x.loan(0, 0, 100), 0);
        Bench.due("600 weeks", x.loan(600, 1, 0), 600);
        Bench.due("the most of each", x.loan(9999, 999, 100), -1);
        Bench.due("the most to pay", x.loan(999, 999, 0), 1);
        Bench.due("601 weeks", x.loan(601, 1, 0), -1);
        Bench.due("cut: 9 by 100 of 1000 is 0", x.loan(9, 1, 100), 9);
        Bench.illegal("f 10000", () -> x.loan(10000, 0, 0));
        Bench.illegal("f -1", () -> x.loan(-1, 0, 0));
        Bench.illegal("w 1000", () -> x.loan(0, 1000, 0));
        Bench.illegal("w -1", () -> x.loan(0, -1, 0));
        Bench.illegal("r 101", () -> x.loan(0, 0, 101));
        Bench.illegal("r -1", () -> x.loan(0, 0, -1));
    }

    private static void land() {
        PassagePapers x = Bench.opened("signer 1 0 0;".repeat(7) + "taker 0 1 1;taker 0 1 4;taker 0 1 2;taker 0 1 1;voyage 0;");
        Bench.due("nobody is bound", x.land(0, 99), 0);
        Bench.work(x, "land;place 0 0;place 1 1;place 2 1;place 3 1;place 4 2;place 5 2;");
        // 1, 3, 2, 0 heads: 3, 2, 1 1/2, 1, 1, 1 (0 ahead of 1 ahead of 2), 3/4, ..
        int[][] due = {{0, 1, 0}, {0, 1, 1}, {0, 2, 1}, {1, 2, 1}, {1, 3, 1}, {1, 3, 2}, {1, 4, 2}};
        for (int n = 1; n <= due.length; n++) {
            for (int taker = 0; taker < 3; taker++) {
                Bench.due("land of " + n + " for " + taker, x.land(taker, n), due[n - 1][taker]);
            }
            Bench.due("who has nobody has none", x.land(3, n), 0);
        }
        Bench.due("land of 0", x.land(1, 0), 0);
        Bench.due("land of 99", x.land(0, 99) + x.land(1, 99) + x.land(2, 99), 99);
        Bench.illegal("n 100", () -> x.land(0, 100));
        Bench.illegal("n -1", () -> x.land(0, -1));
        Bench.noSuch("taker 4", () -> x.land(4, 100));
    }

    private static void bids() {
        PassagePapers x = new PassagePapers();
        Bench.due("3, 10, 10", x.bids(3, 10, 10, 0), 1);
        Bench.due("first", x.bids(3, 10, 10, 1), 303);
        Bench.due("together", x.bids(3, 10, 10, 2), 6);
        Bench.due("0, 9, 8", x.bids(0, 9, 8, 2), 8);
        // Both would bid one more than the other one up to 20, where each has half of 79.
        Bench.due("the most of each", x.bids(20, 99, 99, 1), 2020);
        Bench.due("the most of each", x.bids(20, 99, 99, 2), 78);
        Bench.due("the least of each", x.bids(0, 0, 0, 0), 1);
        // v 1, w 0, bids 0 to 1: 0/0: 0 and 0; 0/1: 0 and -1; 1/0: 0 and 0; 1/1: 0 and 0 (cut).
        Bench.due("1, 1, 0", x.bids(1, 1, 0, 0), 3);
        Bench.due("first", x.bids(1, 1, 0, 1), 0);
        // v 5, w 1, bids 0 to 2: 1/0 (4 and 0), 2/1 (3 and 0), 2/2 (1 and 0, cut).
        Bench.due("2, 5, 1", x.bids(2, 5, 1, 0), 3);
        Bench.due("2, 5, 1: first", x.bids(2, 5, 1, 1), 100);
        Bench.due("2, 5, 1: together", x.bids(2, 5, 1, 2), 4);
        Bench.illegal("n 21", () -> x.bids(21, 0, 0, 0));
        Bench.illegal("n -1", () -> x.bids(-1, 0, 0, 0));
        Bench.illegal("v 100", () -> x.bids(1, 100, 0, 0));
        Bench.illegal("w 100", () -> x.bids(1, 0, 100, 0));
        Bench.illegal("v -1", () -> x.bids(1, -1, 0, 0));
        Bench.illegal("w -1", () -> x.bids(1, 0, -1, 0));
        Bench.illegal("what 3", () -> x.bids(1, 0, 0, 3));
        Bench.illegal("what -1", () -> x.bids(1, 0, 0, -1));
    }

    private static void has() {
        PassagePapers x = new PassagePapers();
        Bench.due("more", x.has(2, 1, 10), 8);
        Bench.due("alike, cut", x.has(2, 2, 9), 3);
        Bench.due("less", x.has(1, 2, 9), 0);
        Bench.due("alike below 0, cut", x.has(9, 9, 0), -4);
        Bench.due("more than it is", x.has(99, 0, 0), -99);
        Bench.due("the most of each", x.has(99, 99, 99), 0);
        Bench.due("the least of each", x.has(0, 0, 0), 0);
        Bench.illegal("own 100", () -> x.has(100, 0, 0));
        Bench.illegal("own -1", () -> x.has(-1, 0, 0));
        Bench.illegal("other 100", () -> x.has(0, 100, 0));
        Bench.illegal("other -1", () -> x.has(0, -1, 0));
        Bench.illegal("v 100", () -> x.has(0, 0, 100));
        Bench.illegal("v -1", () -> x.has(0, 0, -1));
    }

    private static void voyage() {
        PassagePapers x = Bench.opened("signer 1 0 0;signer 1 0 0;stores 10;voyage 0;");
        Bench.due("never spoiled: hunger", x.voyage(5, 0, 9, 6, 0), 2);
        Bench.due("stores", x.voyage(5, 0, 9, 4, 1), 2);
        Bench.due("always spoiled: hunger", x.voyage(5, 16, 3, 3, 0), 2);
        Bench.due("stores", x.voyage(5, 16, 3, 1, 1), 5);
        Bench.due("as many as there are", x.voyage(5, 16, 40, 1, 1), 0);
        Bench.due("how often", x.voyage(5, 16, 0, 99, 2), 99);
        Bench.due("nothing stays changed", x.told(3), 10);
        // From seed 0: 12345 (bits 16 to 30: 0), then 3554416254 (21468, by 16 12 are left).
        Bench.due("the first draw of seed 0 is 0", x.voyage(0, 1, 40, 1, 2), 1);
        Bench.due("the second one is not below 12", x.voyage(0, 12, 40, 2, 2), 1);
        Bench.due("the second one is 12", x.voyage(0, 13, 40, 2, 2), 2);
        Bench.illegal("q 17", () -> x.voyage(1, 17, 0, 1, 0));
        Bench.illegal("q -1", () -> x.voyage(1, -1, 0, 1, 0));
        Bench.illegal("k 41", () -> x.voyage(1, 0, 41, 1, 0));
        Bench.illegal("k -1", () -> x.voyage(1, 0, -1, 1, 0));
        Bench.illegal("weeks 0", () -> x.voyage(1, 0, 0, 0, 0));
        Bench.illegal("weeks 100", () -> x.voyage(1, 0, 0, 100, 0));
        Bench.illegal("what 4", () -> x.voyage(1, 0, 0, 1, 4));
        Bench.illegal("what -1", () -> x.voyage(1, 0, 0, 1, -1));
        PassagePapers y = Bench.opened("signer 1 0 0;signer 2 0 0;signer 1 0 0;taker 0 1 2;voyage 0;kinsman 2 99;");
        Bench.work(y, "land;place 0 0;place 1 0;pay 2;");
        Bench.due("free in 51", y.voyage(1, 0, 0, 51, 3), 1);
        Bench.due("free in 52", y.voyage(1, 0, 0, 52, 3), 2);
    }

    private static void span() {
        PassagePapers x = Bench.opened("signer 1 0 0;signer 1 0 0;stores 10;");
        int least = 999;
        int most = 0;
        int nobody = 0;
        for (int i = 0; i < 20; i++) {
            int hungry = x.voyage(Integer.MAX_VALUE - 3 + i, 3, 7, 4, 0);
            least = Math.min(least, hungry);
            most = Math.max(most, hungry);
            nobody += hungry == 0 ? 1 : 0;
        }
        Bench.due("least", x.span(Integer.MAX_VALUE - 3, 20, 3, 7, 4, 0), least);
        Bench.due("most", x.span(Integer.MAX_VALUE - 3, 20, 3, 7, 4, 1), most);
        Bench.due("nobody", x.span(Integer.MAX_VALUE - 3, 20, 3, 7, 4, 2), nobody);
        Bench.due("the two differ", most > least && nobody > 0, true);
        Bench.due("always", x.span(5, 1, 16, 3, 3, 0), 2);
        Bench.illegal("many 0", () -> x.span(1, 0, 0, 0, 1, 0));
        Bench.illegal("many 21", () -> x.span(1, 21, 0, 0, 1, 0));
        Bench.illegal("q 17", () -> x.span(1, 1, 17, 0, 1, 0));
        Bench.illegal("k 41", () -> x.span(1, 1, 0, 41, 1, 0));
        Bench.illegal("weeks 100", () -> x.span(1, 1, 0, 0, 100, 0));
        Bench.illegal("what 3", () -> x.span(1, 1, 0, 0, 1, 3));
        Bench.illegal("what -1", () -> x.span(1, 1, 0, 0, 1, -1));
    }

    private static void images() {
        PassagePapers x = Bench.opened("signer 1 0 0;taker 0 1 1;voyage 0;stores 50;");
        Bench.due("none yet", x.restore(), -1);
        Bench.due("first", x.image(), 1);
        Bench.work(x, "week;pay 0;");
        Bench.due("second", x.image(), 2);
        Bench.work(x, "week;land;place 0 0;add 0 4;lose 0;");
        Bench.due("third", x.image(), 3);
        Bench.due("no fourth", x.image(), -1);
        Bench.work(x, "strike 0;copy 0;pay 0;week;");
        Bench.book(x, "1 1;");
        Bench.law(x, 0, "5");
        Bench.due("refused", x.told(9), 1);
        Bench.due("the latest", x.restore(), 2);
        Bench.due("refused behind restore", x.told(9), 0);
        Bench.due("months", x.signer(0, 6), 4);
        Bench.due("lost", x.signer(0, 8), 1);
        Bench.due("bound", x.signer(0, 3), 2);
        Bench.due("week", x.told(2), 2);
        Bench.due("stores", x.told(3), 48);
        Bench.due("the book is no part of it", x.told(8), 1);
        Bench.due("nor is a law", x.asks(0, 0), 5);
        Bench.due("the one ahead", x.restore(), 1);
        Bench.due("week", x.told(2), 1);
        Bench.due("aboard", x.signer(0, 3), 0);
        Bench.due("the first", x.restore(), 0);
        Bench.due("week", x.told(2), 0);
        Bench.due("all are gone", x.restore(), -1);
    }

    private static void imageKeepsWorks() {
        PassagePapers x = Bench.opened("signer 1 0 0;stores 50;");
        Bench.work(x, "week;");
        Bench.work(x, "week;week;");
        x.image();
        x.undo();
        x.undo();
        Bench.work(x, "again 9[week;];");
        Bench.due("one work", x.count(2), 1);
        x.image();
        Bench.work(x, "week;");
        x.restore();
        Bench.due("week 9", x.told(2), 9);
        x.restore();
        Bench.due("two works", x.count(2), 2);
        Bench.due("week 3", x.told(2), 3);
        Bench.due("undo", x.undo(), 1);
        Bench.due("week 1", x.told(2), 1);
        Bench.due("undo", x.undo(), 0);
        Bench.due("week 0", x.told(2), 0);
        Bench.due("a restore that is none changes nothing", x.restore(), -1);
    }

    private static void statusAndCount() {
        PassagePapers x = Bench.opened("signer 1 0 0;");
        Bench.due("none", x.status(0), 0);
        Bench.due("none", x.status(1), 0);
        x.image();
        Bench.noSuch("signer 1", () -> x.owes(1));
        Bench.noSuch("taker 0, ahead of the other", () -> x.land(0, -1));
        Bench.illegal("told", () -> x.told(-1));
        x.restore();
        Bench.due("no image keeps it", x.status(0), 2);
        Bench.due("no image keeps it", x.status(1), 1);
        Bench.due("others", x.status(2), -1);
        Bench.due("others", x.status(-1), -1);
        Bench.due("a register keeps it", Bench.register(x, "signer 1 0 0;"), 1);
        Bench.due("no such", x.status(0), 2);
        Bench.feed(x, "week;");
        Bench.due("images", x.count(0), 0);
        Bench.due("tape", x.count(1), 20);
        Bench.due("works", x.count(2), 0);
        x.work(5);
        x.image();
        Bench.due("images", x.count(0), 1);
        Bench.due("tape", x.count(1), 0);
        Bench.due("works", x.count(2), 1);
        Bench.due("others", x.count(3), -1);
        Bench.due("others", x.count(-1), -1);
    }
}
