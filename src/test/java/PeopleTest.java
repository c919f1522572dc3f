/** Promises 9 to 30: what is told of signers and takers, the steps, the laws, places, stores, terms. */
public final class PeopleTest {
    private static final String LANDING = "signer 5 1 1;signer 4 2 1;signer 1 0 0;signer 2 1 0;"
            + "taker 1 20 2;taker 2 26 1;kinsman 2 9;kinsman 0 70;stores 9;voyage 2;";

    public static void main(String[] args) {
        telling();
        landing();
        placingAndAdding();
        losingAndStriking();
        paying();
        weeks();
        lastWeek();
        askingAndOwing();
        would();
        heldAndOtherwise();
        freeIn();
        ahead();
        gives();
        best();
        bestTies();
        bestRoomAndKin();
        partedAndKin();
        fares();
        stores();
        terms();
        ask();
        Bench.end("PeopleTest");
    }

    private static void telling() {
        PassagePapers x = Bench.opened(LANDING);
        int[] told = {4, 2, 0, 9, 4, 0, 0, 0, 0, 0, 2};
        for (int what = 0; what < told.length; what++) {
            Bench.due("told " + what, x.told(what), told[what]);
        }
        Bench.illegal("told 11", () -> x.told(11));
        Bench.illegal("told -1", () -> x.told(-1));
        int[] first = {5, 1, 1, 0, -1, 0, 0, 0, 0, 70};
        for (int what = 0; what < first.length; what++) {
            Bench.due("signer 0: " + what, x.signer(0, what), first[what]);
        }
        Bench.illegal("signer what 10", () -> x.signer(0, 10));
        Bench.illegal("signer what -1", () -> x.signer(0, -1));
        Bench.noSuch("signer 4", () -> x.signer(4, 0));
        Bench.noSuch("signer -1, ahead of the other", () -> x.signer(-1, 99));
        int[] second = {2, 26, 1, 0};
        for (int what = 0; what < second.length; what++) {
            Bench.due("taker 1: " + what, x.taker(1, what), second[what]);
        }
        Bench.illegal("taker what 4", () -> x.taker(1, 4));
        Bench.noSuch("taker 2", () -> x.taker(2, 4));
        Bench.noSuch("taker -1", () -> x.taker(-1, 0));
    }

    private static void landing() {
        PassagePapers x = Bench.opened(LANDING);
        Bench.due("too soon, then not, then nobody aboard", Bench.work(x, "land;week;land;week;land;land;"), 3);
        Bench.due("refused", x.told(9), 3);
        Bench.due("ashore", x.told(5), 4);
        Bench.due("where", x.signer(2, 3), 1);
        Bench.due("nobody to land at all", Bench.work(Bench.opened("voyage 0;"), "land;"), 0);
    }

    private static void placingAndAdding() {
        PassagePapers x = Bench.opened(LANDING);
        Bench.due("aboard: not placed, not added", Bench.work(x, "place 0 0;add 0 1;"), 0);
        Bench.work(x, "again 2[week;];land;");
        Bench.due("room for 1, not for bound ones", Bench.work(x, "place 0 1;place 1 1;place 0 0;add 1 1;place 1 0;"), 2);
        Bench.due("refused", x.told(9), 3);
        Bench.due("his taker", x.signer(0, 4), 1);
        Bench.due("bound to 1", x.taker(1, 3), 1);
        Bench.due("bound", x.told(6), 2);
        Bench.due("service", x.signer(0, 5), 0);
        Bench.due("added", Bench.work(x, "add 0 24;add 0 24;add 0 24;add 0 24;"), 4);
        Bench.due("96", x.signer(0, 6), 96);
        Bench.due("99 at most, then refused", Bench.work(x, "add 0 24;add 0 1;"), 1);
        Bench.due("99", x.signer(0, 6), 99);
    }

    private static void losingAndStriking() {
        PassagePapers x = Bench.opened(LANDING + "voyage 0;");
        Bench.due("aboard, too", Bench.work(x, "copy 0;lose 0;lose 0;copy 0;copy 0;lose 0;"), 3);
        Bench.due("lost", x.signer(0, 8), 1);
        Bench.due("nothing to strike", Bench.work(x, "strike 0;"), 0);
        Bench.due("struck", Bench.work(x, "land;place 0 0;add 0 5;strike 0;strike 0;add 0 2;"), 5);
        Bench.due("months", x.signer(0, 6), 2);
        Bench.law(x, 0, "0");
        Bench.due("free: neither lose nor copy, but strike", Bench.work(x, "week;lose 0;copy 0;strike 0;add 0 1;place 0 0;pay 0;"), 2);
        Bench.due("free", x.signer(0, 3), 3);
        Bench.due("still lost", x.signer(0, 8), 1);
        Bench.due("struck", x.signer(0, 6), 0);
    }

    private static void paying() {
        PassagePapers x = Bench.opened("signer 1 0 0;signer 1 0 0;signer 1 0 0;taker 0 1 4;voyage 0;kinsman 0 13;kinsman 1 12;kinsman 2 12;");
        Bench.due("aboard", Bench.work(x, "pay 0;"), 0);
        Bench.due("13 is enough, 12 is not", Bench.work(x, "land;pay 0;pay 1;"), 2);
        Bench.due("coins are gone", x.signer(0, 9), 0);
        Bench.due("free", x.signer(0, 3), 3);
        Bench.due("coins stay", x.signer(1, 9), 12);
        Bench.due("51 by 4, cut, is 12", Bench.work(x, "place 1 0;week;pay 1;pay 1;"), 3);
        Bench.due("free", x.signer(1, 3), 3);
        Bench.due("no taker any more", x.signer(1, 4), -1);
        Bench.due("his service stays", x.signer(1, 5), 1);
        Bench.due("room again", x.taker(0, 3), 0);
        Bench.due("never placed: no service", x.signer(0, 5), 0);
    }

    private static void weeks() {
        PassagePapers x = Bench.opened("signer 1 0 0;signer 1 0 0;signer 1 0 0;taker 0 1 1;stores 4;voyage 2;");
        Bench.work(x, "week;week;");
        Bench.due("stores", x.told(3), 0);
        Bench.due("by number: 0 ate twice", x.signer(0, 7), 0);
        Bench.due("1 was hungry", x.signer(1, 7), 1);
        Bench.due("2 was hungry", x.signer(2, 7), 1);
        Bench.work(x, "land;place 0 0;again 51[week;];");
        Bench.due("ashore nobody is hungry", x.signer(1, 7), 1);
        Bench.due("service", x.signer(0, 5), 51);
        Bench.due("bound", x.signer(0, 3), 2);
        Bench.work(x, "week;week;");
        Bench.due("free", x.signer(0, 3), 3);
        Bench.due("service no more", x.signer(0, 5), 52);
        PassagePapers y = Bench.opened("signer 1 0 0;taker 0 1 1;voyage 0;");
        Bench.law(y, 0, "3-week");
        Bench.work(y, "land;place 0 0;week;");
        Bench.due("3-1 less 1 is owed", y.owes(0), 1);
        Bench.work(y, "week;");
        Bench.due("the week is one more ahead of that", y.signer(0, 3), 3);
        Bench.law(x, 0, "0");
        PassagePapers z = Bench.opened("signer 1 0 0;taker 0 1 1;voyage 0;");
        Bench.law(z, 0, "0");
        Bench.work(z, "land;place 0 0;");
        Bench.due("owes nothing, bound until the week", z.signer(0, 3), 2);
        Bench.work(z, "week;");
        Bench.due("free then", z.signer(0, 3), 3);
    }

    private static void lastWeek() {
        PassagePapers x = Bench.opened("signer 9 0 0;taker 0 1 1;voyage 0;");
        Bench.law(x, 0, "most[950-week,0]+week-week+0*added+999*(1-week/940)");
        Bench.work(x, "land;place 0 0;");
        for (int i = 0; i < 4; i++) {
            Bench.due("180 weeks", Bench.work(x, "again 3[again 60[week;];];"), 180);
        }
        Bench.due("week", x.told(2), 720);
        Bench.due("180 more", Bench.work(x, "again 3[again 60[week;];];week;"), 180);
        Bench.due("week 900 is the last", x.told(2), 900);
        Bench.due("refused", x.told(9), 1);
        Bench.due("bound", x.signer(0, 3), 2);
        // Asked, weeks go by beyond 900: in week 940 the law lets go.
        Bench.due("free in", x.freeIn(0), 40);
        Bench.due("ahead", x.ahead(40, 0), 1);
        Bench.due("not yet", x.ahead(39, 0), 0);
        Bench.due("voyage", x.voyage(1, 0, 0, 40, 3), 1);
        Bench.due("nothing stays changed", x.told(2), 900);
    }

    private static void askingAndOwing() {
        PassagePapers x = Bench.opened(LANDING + "voyage 0;");
        Bench.due("5 years", x.asks(0, 0), 260);
        Bench.due("by law 1", x.asks(1, 1), 208);
        Bench.illegal("law 2", () -> x.asks(0, 2));
        Bench.noSuch("signer 4", () -> x.asks(4, 2));
        Bench.work(x, "land;place 0 0;add 0 2;week;");
        Bench.due("months", x.asks(0, 0), 268);
        Bench.due("owes", x.owes(0), 267);
        Bench.due("ashore he owes all", x.owes(1), 208);
        Bench.noSuch("owes 4", () -> x.owes(4));
        Bench.noSuch("owes -1", () -> x.owes(-1));
        Bench.law(x, 0, "0-5");
        Bench.due("0 at least", x.asks(0, 0), 0);
        Bench.due("0 at least", x.owes(0), 0);
        Bench.work(x, "week;");
        Bench.law(x, 0, "years*100");
        Bench.due("free: his paper still asks", x.asks(0, 0), 500);
        Bench.due("free: he owes nothing", x.owes(0), 0);
        Bench.law(x, 0, "999*years");
        Bench.due("999 at most", x.asks(1, 0), 999);
    }

    private static void would() {
        PassagePapers x = Bench.opened(LANDING);
        Bench.law(x, 0, "years*100+added-trade*10+hungry*2-lost+week*3+placed*50+kin*50");
        Bench.due("would", x.would(2, 3, 1, 4, 1, 5), 200 + 3 - 10 + 8 - 1 + 15);
        Bench.due("edges", x.would(9, 99, 5, 99, 1, 900), 999);
        Bench.illegal("years 0", () -> x.would(0, 0, 0, 0, 0, 0));
        Bench.illegal("years 10", () -> x.would(10, 0, 0, 0, 0, 0));
        Bench.illegal("added 100", () -> x.would(1, 100, 0, 0, 0, 0));
        Bench.illegal("added -1", () -> x.would(1, -1, 0, 0, 0, 0));
        Bench.illegal("trade 6", () -> x.would(1, 0, 6, 0, 0, 0));
        Bench.illegal("hungry 100", () -> x.would(1, 0, 0, 100, 0, 0));
        Bench.illegal("lost 2", () -> x.would(1, 0, 0, 0, 2, 0));
        Bench.illegal("lost -1", () -> x.would(1, 0, 0, 0, -1, 0));
        Bench.illegal("week 901", () -> x.would(1, 0, 0, 0, 0, 901));
        Bench.illegal("week -1", () -> x.would(1, 0, 0, 0, 0, -1));
        Bench.due("counted", x.status(1), 10);
    }

    private static void heldAndOtherwise() {
        PassagePapers x = Bench.opened(LANDING + "voyage 0;");
        Bench.work(x, "land;place 0 0;place 1 1;place 3 0;again 10[week;];");
        Bench.due("nobody", x.held(), 0);
        Bench.law(x, 1, "years*2");
        Bench.due("0 (10), 1 (8), 3 (4), not 2, who is ashore", x.held(), 1 + 2 + 8);
        Bench.law(x, 1, "years*2+trade");
        Bench.due("11, 10, 5", x.held(), 2 + 8);
        Bench.due("in one", x.otherwise(0), 1);
        Bench.due("one at least", x.otherwise(1), 1);
        Bench.due("by the court", x.freeIn(0), 250);
        Bench.due("not bound", x.otherwise(2), -1);
        Bench.law(x, 1, "999");
        Bench.due("not so soon", x.otherwise(0), -1);
        Bench.due("and nobody is held", x.held(), 0);
        Bench.law(x, 1, "610");
        Bench.due("the last of 600", x.otherwise(0), 600);
        Bench.law(x, 1, "611");
        Bench.due("one later", x.otherwise(0), -1);
        Bench.noSuch("otherwise 4", () -> x.otherwise(4));
    }

    private static void freeIn() {
        PassagePapers x = Bench.opened(LANDING + "voyage 0;");
        Bench.due("aboard", x.freeIn(0), -1);
        Bench.work(x, "land;place 0 0;place 3 0;");
        Bench.due("bound", x.freeIn(0), 260);
        Bench.due("ashore", x.freeIn(1), -1);
        Bench.law(x, 0, "600");
        Bench.due("600", x.freeIn(0), 600);
        Bench.law(x, 0, "601");
        Bench.due("601", x.freeIn(0), -1);
        Bench.law(x, 0, "999*(1-week/30)+week/40*999");
        Bench.due("only in weeks 30 to 39 little is asked", x.freeIn(0), 30);
        Bench.noSuch("freeIn -1", () -> x.freeIn(-1));
        Bench.due("nothing stays changed", x.told(2), 0);
    }

    private static void ahead() {
        PassagePapers x = Bench.opened(LANDING);
        Bench.due("hungry", x.ahead(3, 2), 3);
        Bench.due("not yet", x.ahead(2, 2), 0);
        Bench.work(x, "week;week;land;place 0 0;place 1 1;pay 2;place 3 0;");
        Bench.due("free in 104", x.ahead(104, 0), 1);
        Bench.due("in 103", x.ahead(103, 0), 0);
        Bench.due("in 0", x.ahead(0, 0), 0);
        Bench.due("all service", x.ahead(600, 1), 260 + 208 + 104);
        Bench.due("150 weeks' service", x.ahead(150, 1), 150 + 150 + 104);
        Bench.due("no service in 0", x.ahead(0, 1), 0);
        Bench.work(x, "pay 0;");
        Bench.due("the free are counted on", x.ahead(0, 0), 1);
        Bench.due("the free and the freed", x.ahead(208, 0), 3);
        Bench.illegal("n 601", () -> x.ahead(601, 0));
        Bench.illegal("n -1", () -> x.ahead(-1, 0));
        Bench.illegal("what 3", () -> x.ahead(1, 3));
        Bench.illegal("what -1", () -> x.ahead(1, -1));
    }

    private static void gives() {
        PassagePapers x = Bench.opened(LANDING);
        Bench.due("20 by 260 by 52", x.gives(0, 0), 100);
        Bench.due("half of 130", x.gives(1, 0), 65);
        Bench.due("half of 26", x.gives(1, 2), 13);
        Bench.law(x, 0, "29");
        Bench.due("20 by 29 by 52, cut", x.gives(0, 0), 11);
        Bench.due("half, cut", x.gives(0, 1), 5);
        Bench.noSuch("taker 2", () -> x.gives(2, 0));
        Bench.noSuch("signer 4", () -> x.gives(0, 4));
        Bench.due("counted", x.status(0), 2);
        Bench.law(x, 0, "0");
        Bench.work(x, "week;week;land;place 0 0;week;");
        Bench.law(x, 0, "52");
        Bench.due("for a free one nothing", x.gives(0, 0), 0);
    }

    private static void best() {
        PassagePapers x = Bench.opened(LANDING);
        Bench.due("nobody is ashore", x.best(0), 0);
        Bench.work(x, "week;week;land;");
        Bench.due("all gives", x.best(0), 166);
        Bench.due("placed", x.best(1), 3);
        Bench.due("kin together", x.bestFor(0), 0);
        Bench.due("kin together", x.bestFor(1), 0);
        Bench.due("not placed", x.bestFor(2), -1);
        Bench.due("the other", x.bestFor(3), 1);
        Bench.illegal("what 2", () -> x.best(2));
        Bench.noSuch("signer 4", () -> x.bestFor(4));
        Bench.work(x, "place 1 0;");
        // His kin is bound: he is free to go anywhere now: 0 to taker 0 or 1, 2 and 3 as it fits.
        Bench.due("one room each", x.best(0), 126);
        Bench.due("0 to taker 0", x.bestFor(0), 0);
        Bench.due("bound: none", x.bestFor(1), -1);
        Bench.due("3 to taker 1", x.bestFor(3), 1);
    }

    private static void bestTies() {
        PassagePapers x = Bench.opened("signer 1 0 0;signer 1 0 0;signer 1 0 0;taker 0 10 1;taker 0 10 1;voyage 0;");
        Bench.work(x, "land;");
        Bench.due("20", x.best(0), 20);
        Bench.due("not placed comes first", x.bestFor(0), -1);
        Bench.due("then taker 0", x.bestFor(1), 0);
        Bench.due("then 1", x.bestFor(2), 1);
        Bench.law(x, 0, "0");
        Bench.due("for nothing nobody is placed", x.best(1), 0);
        PassagePapers y = Bench.opened("signer 1 0 0;".repeat(8) + "taker 0 10 4;taker 0 10 4;taker 0 10 4;taker 0 10 4;taker 0 10 4;voyage 0;");
        Bench.work(y, "land;");
        Bench.due("80", y.best(0), 80);
        Bench.due("8", y.best(1), 8);
        Bench.due("0 to 0", y.bestFor(0), 0);
        Bench.due("3 to 0", y.bestFor(3), 0);
        Bench.due("4 to 1", y.bestFor(4), 1);
        Bench.due("7 to 1", y.bestFor(7), 1);
    }

    private static void bestRoomAndKin() {
        PassagePapers x = Bench.opened("signer 1 0 2;".repeat(5) + "signer 1 0 0;taker 0 10 4;taker 0 10 4;voyage 0;");
        Bench.work(x, "land;");
        Bench.due("five kin have no room", x.best(0), 10);
        Bench.due("one is placed", x.best(1), 1);
        Bench.work(x, "place 0 1;");
        Bench.due("four have", x.best(0), 50);
        Bench.due("with taker 0", x.bestFor(4), 0);
        Bench.due("and the other with 1", x.bestFor(5), 1);
        PassagePapers y = Bench.opened("signer 9 0 1;signer 1 0 0;signer 1 0 1;signer 5 0 0;taker 0 10 1;taker 0 4 2;voyage 0;");
        Bench.work(y, "land;");
        // 5 years by 10, and the kin's 10 years by 4; the kin have no room with taker 0.
        Bench.due("kin to the lesser taker", y.best(0), 90);
        Bench.due("0", y.bestFor(0), 1);
        Bench.due("1", y.bestFor(1), -1);
        Bench.due("2", y.bestFor(2), 1);
        Bench.due("3", y.bestFor(3), 0);
        Bench.due("without takers", Bench.opened("signer 1 0 0;").best(0), 0);
    }

    private static void partedAndKin() {
        PassagePapers x = Bench.opened("signer 1 0 3;signer 1 0 3;signer 1 0 3;signer 1 0 3;signer 1 0 0;signer 1 0 0;signer 1 0 4;"
                + "taker 0 1 4;taker 0 1 4;taker 0 1 4;voyage 0;");
        Bench.due("kin of 0", x.kin(0), 2 + 4 + 8);
        Bench.due("kin of 2", x.kin(2), 1 + 2 + 8);
        Bench.due("0 is none", x.kin(4), 0);
        Bench.due("alone", x.kin(6), 0);
        Bench.noSuch("kin 7", () -> x.kin(7));
        Bench.law(x, 1, "kin");
        Bench.due("3 of them", x.asks(0, 1), 3);
        Bench.work(x, "land;place 0 0;place 1 1;place 4 0;place 5 1;place 6 2;");
        Bench.due("one pair", x.parted(), 1);
        Bench.work(x, "place 2 2;");
        Bench.due("three pairs", x.parted(), 3);
        Bench.work(x, "place 3 2;");
        Bench.due("five pairs", x.parted(), 5);
        Bench.law(x, 0, "0");
        Bench.work(x, "week;");
        Bench.due("free: none", x.parted(), 0);
    }

    private static void fares() {
        PassagePapers x = Bench.opened(LANDING);
        Bench.due("aboard", x.fare(0), -1);
        Bench.due("aboard", x.canPay(0), false);
        Bench.work(x, "week;week;land;");
        Bench.due("65", x.fare(0), 65);
        Bench.due("70 will do", x.canPay(0), true);
        Bench.due("13", x.fare(2), 13);
        Bench.due("9 won't", x.canPay(2), false);
        Bench.due("no kinsman", x.canPay(3), false);
        Bench.law(x, 0, "3");
        Bench.due("3 by 4, cut", x.fare(3), 0);
        Bench.due("0 is enough", x.canPay(3), true);
        Bench.work(x, "pay 3;");
        Bench.due("free", x.fare(3), 0);
        Bench.due("free", x.canPay(3), false);
        Bench.noSuch("fare 4", () -> x.fare(4));
        Bench.noSuch("canPay 4", () -> x.canPay(4));
    }

    private static void stores() {
        PassagePapers x = Bench.opened(LANDING);
        Bench.due("hunger in", x.hunger(), 2);
        Bench.due("enough for 3", x.enough(3), 12);
        Bench.due("enough for 0", x.enough(0), 0);
        Bench.due("enough for 99", x.enough(99), 396);
        Bench.due("level", x.level(9), 2);
        Bench.due("n at most", x.level(1), 1);
        Bench.due("level of 0", x.level(0), 0);
        Bench.due("level of 99", x.level(99), 2);
        Bench.illegal("enough 100", () -> x.enough(100));
        Bench.illegal("enough -1", () -> x.enough(-1));
        Bench.illegal("level 100", () -> x.level(100));
        Bench.illegal("level -1", () -> x.level(-1));
        Bench.work(x, "week;week;week;");
        Bench.due("this one", x.hunger(), 0);
        Bench.due("level of nothing", x.level(9), 0);
        Bench.work(x, "land;");
        Bench.due("nobody aboard", x.hunger(), -1);
        Bench.due("nobody aboard", x.level(9), -1);
        Bench.due("nobody aboard", x.enough(9), 0);
        Bench.due("in 99", Bench.opened("signer 1 0 0;stores 99;").hunger(), 99);
        Bench.due("in 100: not so soon", Bench.opened("signer 1 0 0;stores 100;").hunger(), -1);
    }

    private static void terms() {
        PassagePapers x = Bench.opened(LANDING);
        Bench.due("without a book all", x.terms(0, 0), 225);
        Bench.due("first", x.terms(0, 1), 100);
        Bench.due("least", x.terms(0, 2), 52);
        Bench.due("greatest", x.terms(0, 3), 9 * 52 + 96);
        Bench.book(x, "0 104;");
        // 2 years, or 1 year and 13 months.
        Bench.due("two", x.terms(0, 0), 2);
        Bench.due("first", x.terms(0, 1), 113);
        Bench.due("least", x.terms(0, 2), 104);
        Bench.book(x, "0 104;104 0;103 1;200 0;");
        Bench.due("two still", x.terms(0, 0), 2);
        Bench.book(x, "0 104;103 0;");
        Bench.due("none", x.terms(0, 0), 0);
        Bench.due("none", x.terms(0, 1), -1);
        Bench.due("none", x.terms(0, 2), -1);
        Bench.due("none", x.terms(0, 3), -1);
        Bench.illegal("what 4", () -> x.terms(0, 4));
        Bench.illegal("what -1", () -> x.terms(0, -1));
        Bench.noSuch("signer 4", () -> x.terms(4, 4));
        Bench.law(x, 0, "years*100+trade*10+kin");
        Bench.book(x, "0 311;");
        Bench.due("all else as it is", x.terms(0, 0), 25);
        Bench.due("of another there are none", x.terms(2, 0), 0);
        Bench.due("nothing stays changed", x.signer(0, 0), 5);
    }

    private static void ask() {
        PassagePapers x = Bench.opened(LANDING);
        Bench.due("week 0 tells most", x.ask(0, 0), 0);
        Bench.due("two may ask alike", x.ask(0, 1), 2);
        Bench.book(x, "0 104;");
        Bench.due("in no line", x.ask(0, 0), 1);
        Bench.due("two", x.ask(0, 1), 2);
        Bench.book(x, "0 104;1 0;");
        Bench.due("no terms", x.ask(0, 1), 0);
        Bench.due("the first in no line", x.ask(0, 0), 2);
        Bench.book(x, "0 53;");
        Bench.due("none again", x.ask(0, 0), 1);
        Bench.illegal("what 2", () -> x.ask(0, 2));
        Bench.noSuch("signer 4", () -> x.ask(4, 2));
        Bench.book(x, "100 0;50 50;0 100;1 99;");
        Bench.due("1 year and 12 months alone", x.terms(0, 1), 112);
        Bench.due("left", x.ask(0, 1), 1);
        Bench.due("week", x.ask(0, 0), 2);
        // Asked behind what is asked, all say 0: of 225 terms as many are left as ask no more.
        Bench.book(x, "");
        Bench.law(x, 0, "years");
        Bench.due("25 a year", x.ask(0, 1), 25);
        Bench.due("week 0; 1 is alike", x.ask(0, 0), 0);
        Bench.book(x, "499 0;");
        Bench.due("25 still", x.ask(0, 1), 25);
    }
}
