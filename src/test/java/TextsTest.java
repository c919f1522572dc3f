/** Promises 1 to 8: the tape, the four kinds of text, their faults, undoing. */
public final class TextsTest {
    private static final String TWO = "signer 5 1 1;signer 4 2 1;taker 1 20 2;";

    public static void main(String[] args) {
        newObject();
        feeding();
        tapeIsUsedUp();
        registerDefaults();
        registerFaults();
        registerCounts();
        registerForgets();
        lawValues();
        lawFaults();
        workFaults();
        workCountsAndLimit();
        bookLines();
        faultPlaces();
        undoing();
        Bench.end("TextsTest");
    }

    private static void newObject() {
        PassagePapers x = new PassagePapers();
        Bench.due("new: signers", x.told(0), 0);
        Bench.due("new: takers", x.told(1), 0);
        Bench.due("new: week", x.told(2), 0);
        Bench.due("new: stores", x.told(3), 60);
        Bench.due("new: voyage", x.told(10), 8);
        Bench.due("new: fault", x.fault(), -1);
        Bench.due("new: tape", x.count(1), 0);
        Bench.due("new: works", x.count(2), 0);
        Bench.due("NONE", PassagePapers.NONE, -1);
    }

    private static void feeding() {
        PassagePapers x = new PassagePapers();
        for (int i = 1; i <= 30; i++) {
            Bench.due("feed " + i, x.feed(0x20202020, 0x20202020, 0x20202020, 0x20202020, 0x20202020), 20 * i);
        }
        Bench.due("feed beyond 600", x.feed(1, 2, 3, 4, 5), -1);
        Bench.due("tape after that", x.count(1), 600);
        Bench.due("600 blanks are a register", x.register(600), 0);
        Bench.due("no fault", x.fault(), -1);
        // The highest byte of each number first; bytes above 127 are no letters.
        x.feed(0x73746f72, 0x65732037, 0x3bffffff, 0, 0);
        Bench.due("stores 7;", x.register(9), 0);
        Bench.due("told", x.told(3), 7);
        x.feed(0xff000000, 0, 0, 0, 0);
        Bench.due("byte 255", x.register(1), -9);
        x.feed(0x09737461, 0, 0, 0, 0);
        Bench.due("a tab is no blank", x.register(4), -9);
        Bench.due("at", x.fault(), 0);
    }

    private static void tapeIsUsedUp() {
        PassagePapers x = new PassagePapers();
        Bench.feed(x, "stores 5;stores 6;");
        Bench.due("only the first n", x.register(9), 0);
        Bench.due("stores", x.told(3), 5);
        Bench.due("tape empty", x.count(1), 0);
        Bench.feed(x, "stores 5;");
        Bench.illegal("n above the tape", () -> x.register(21));
        Bench.illegal("n below 0", () -> x.register(-1));
        Bench.illegal("law n below 0", () -> x.law(0, -1));
        Bench.illegal("which 2", () -> x.law(2, 1));
        Bench.illegal("which -1", () -> x.law(-1, 1));
        Bench.illegal("work n above the tape", () -> x.work(21));
        Bench.illegal("book n above the tape", () -> x.book(21));
        Bench.due("tape stays", x.count(1), 20);
        Bench.due("fault", x.register(8), -9);
        Bench.due("tape empty after a fault", x.count(1), 0);
        Bench.feed(x, " ".repeat(200));
        Bench.illegal("law n above 150", () -> x.law(0, 151));
        Bench.illegal("work n above 150", () -> x.work(151));
        Bench.illegal("book n above 100", () -> x.book(101));
        Bench.due("tape stays", x.count(1), 200);
        Bench.due("a law of 150 blanks", x.law(0, 150), -9);
        Bench.due("ends too early", x.fault(), 150);
        Bench.feed(x, " ".repeat(150));
        Bench.due("a work of 150 blanks", x.work(150), 0);
        Bench.feed(x, " ".repeat(100));
        Bench.due("a book of 100 blanks", x.book(100), 0);
    }

    private static void registerDefaults() {
        PassagePapers x = Bench.opened("signer5 1 1 ; kinsman 0 7;kinsman 0 3;stores 9;stores 400;voyage 0;voyage 20;  ");
        Bench.due("the last kinsman", x.signer(0, 9), 3);
        Bench.due("the last stores", x.told(3), 400);
        Bench.due("the last voyage", x.told(10), 20);
        Bench.due("leading zeros", Bench.register(x, "signer 00000000000000000000009 0 0;"), 1);
        Bench.due("years", x.signer(0, 0), 9);
        Bench.due("coins without", x.signer(0, 9), 0);
        Bench.due("stores without", x.told(3), 60);
        Bench.due("voyage without", x.told(10), 8);
        Bench.due("the edges", Bench.register(x, "signer 1 5 4;kinsman 0 999;taker 5 40 4;taker 0 1 1;stores 0;"), 1);
    }

    private static void registerFault(String text, int answer, int place) {
        PassagePapers x = Bench.opened(TWO);
        Bench.due("register " + text, Bench.register(x, text), answer);
        Bench.due("place in " + text, x.fault(), place);
        Bench.due("all stays: " + text, x.told(0), 2);
    }

    private static void registerFaults() {
        registerFault("signer 0 0 0;", -8, 7);
        registerFault("signer 10 0 0;", -8, 7);
        registerFault("signer 1 6 0;", -8, 9);
        registerFault("signer 1 0 5;", -8, 11);
        registerFault("taker 6 1 1;", -8, 6);
        registerFault("taker 0 0 1;", -8, 8);
        registerFault("taker 0 41 1;", -8, 8);
        registerFault("taker 0 1 0;", -8, 10);
        registerFault("taker 0 1 5;", -8, 10);
        registerFault("kinsman 0 1;signer 1 0 0;", -8, 8);
        registerFault("signer 1 0 0;kinsman 1 1;", -8, 21);
        registerFault("signer 1 0 0;kinsman 0 1000;", -8, 23);
        registerFault("stores 401;", -8, 7);
        registerFault("stores 4294967296;", -8, 7);
        registerFault("stores 99999999999999999999999;", -8, 7);
        registerFault("voyage 21;", -8, 7);
        registerFault("signer 1 0;", -9, 10);
        registerFault("signer 1 0 0", -9, 12);
        registerFault("signer 1 0 0   ", -9, 15);
        registerFault("signer 100;", -8, 7);
        registerFault("Signer 1 0 0;", -9, 0);
        registerFault("  signers 1 0 0;", -9, 2);
        registerFault("stores;", -9, 6);
        registerFault("stores -1;", -9, 7);
        registerFault(";", -9, 0);
        registerFault("stores 1;;", -9, 9);
        registerFault("5;", -9, 0);
    }

    private static void registerCounts() {
        Bench.due("8 signers", Bench.register(new PassagePapers(), "signer 1 0 0;".repeat(8)), 8);
        registerFault("signer 1 0 0;".repeat(9), -7, 104);
        Bench.due("5 takers", Bench.register(new PassagePapers(), "taker 0 1 1;".repeat(5)), 0);
        registerFault("taker 0 1 1;".repeat(6), -7, 60);
        Bench.due("60 clauses", Bench.register(new PassagePapers(), "stores1;".repeat(60)), 0);
        registerFault("stores1;".repeat(61), -7, 480);
        registerFault("stores1;".repeat(60) + " voyage", -7, 481);
        registerFault("stores1;".repeat(60) + " voyages", -9, 481);
        Bench.due("60 clauses and blanks", Bench.register(new PassagePapers(), "stores1;".repeat(60) + "  "), 0);
        registerFault("signer 1 0 0;".repeat(8) + "signer 0 0 0;", -7, 104);
    }

    private static void registerForgets() {
        PassagePapers x = Bench.opened(TWO + "voyage 0;");
        Bench.law(x, 0, "7");
        Bench.law(x, 1, "8");
        Bench.book(x, "0 7;");
        Bench.work(x, "week;place 0 0;");
        x.image();
        Bench.due("one refused", x.told(9), 1);
        Bench.due("register", Bench.register(x, TWO), 2);
        Bench.due("law 0 is gone", x.asks(0, 0), 260);
        Bench.due("law 1 is gone", x.asks(0, 1), 260);
        Bench.due("the book is gone", x.told(8), 0);
        Bench.due("images are gone", x.count(0), 0);
        Bench.due("nothing to undo", x.count(2), 0);
        Bench.due("undo", x.undo(), -1);
        Bench.due("week 0", x.told(2), 0);
        Bench.due("no steps were refused yet", x.told(9), 0);
        Bench.due("aboard", x.told(4), 2);
    }

    /** What LAW 0 asks for 3 years, 7 months added, trade 4, hungry 5, a lost paper, week 11. */
    private static void lawValue(String text, int want) {
        PassagePapers x = new PassagePapers();
        Bench.due("law " + text, Bench.law(x, 0, text), 1);
        Bench.due("value of " + text, x.would(3, 7, 4, 5, 1, 11), want);
    }

    private static void lawValues() {
        lawValue("years", 3);
        lawValue("added", 7);
        lawValue("trade", 4);
        lawValue("hungry", 5);
        lawValue("lost", 1);
        lawValue("week", 11);
        lawValue("placed", 0);
        lawValue("kin", 0);
        lawValue("999", 999);
        lawValue("999+1", 999);
        lawValue("1-2", 0);
        lawValue(" 10 - 3 - 2 ", 5);
        lawValue("2+3*4", 14);
        lawValue("(2+3)*4", 20);
        lawValue("100/7/2", 7);
        lawValue("100/(7/2)", 33);
        lawValue("(1-8)/2+10", 7);
        lawValue("5/0+3", 3);
        lawValue("least[9,4]", 4);
        lawValue("most [ 9 , 4 ]", 9);
        lawValue("most[least[1,2],least[7,8]]", 7);
        lawValue("((((((6))))))", 6);
        lawValue("((((((6))))))+((((((6))))))", 12);
        lawValue("least[(most[(least[(6),7]),6]),9]", 6);
        // As many values wait at once as can: three for each of the six that are open.
        lawValue("1+1*least[9,".repeat(6) + "1+1*2" + "]".repeat(6), 9);
        lawValue("1" + "+1".repeat(74), 75);
        // 999 * 999 * 999 * 999 wraps in 32 bits to -287163887, cut to 0 as it is below it.
        lawValue("999*999*999*999", 0);
        lawValue("0-999*999*999*999", 999);
        // -2147483648 / -1 stays what it is: 64 to the fifth is 2 to the 30.
        lawValue("(0-64*64*64*64*64*2)/(0-1)", 0);
        PassagePapers x = Bench.opened(TWO + "voyage 0;");
        Bench.law(x, 1, "kin*100+placed*10+week");
        Bench.work(x, "week;week;");
        Bench.due("not placed: this week", x.asks(0, 1), 122);
        Bench.work(x, "land;place 0 0;week;");
        Bench.due("placed in week 2", x.asks(0, 1), 123);
        Bench.due("law 0 stays", x.asks(0, 0), 260);
    }

    private static void lawFault(String text, int answer, int place) {
        PassagePapers x = new PassagePapers();
        Bench.law(x, 0, "77");
        Bench.due("law " + text, Bench.law(x, 0, text), answer);
        Bench.due("place in " + text, x.fault(), place);
        Bench.due("the law stays: " + text, x.would(1, 0, 0, 0, 0, 0), 77);
    }

    private static void lawFaults() {
        lawFault("", -9, 0);
        lawFault("   ", -9, 3);
        lawFault("1000", -8, 0);
        lawFault("lost+", -9, 5);
        lawFault("lost+ ", -9, 6);
        lawFault("-1", -9, 0);
        lawFault("1 2", -9, 2);
        lawFault("1;", -9, 1);
        lawFault("kins", -9, 0);
        lawFault("years5years", -9, 5);
        lawFault("(1", -9, 2);
        lawFault("(1]", -9, 2);
        lawFault("1)", -9, 1);
        lawFault("least 5", -9, 6);
        lawFault("least[5]", -9, 7);
        lawFault("least[5,6", -9, 9);
        lawFault("least[5,6)", -9, 9);
        lawFault("most[5,6,7]", -9, 8);
        lawFault("(((((((1", -7, 6);
        lawFault("least[(most[(least[(least", -7, 20);
        lawFault("((((((most", -7, 6);
        lawFault("((((((mosts", -9, 6);
        lawFault("1*/2", -9, 2);
    }

    private static void workFault(String text, int answer, int place) {
        PassagePapers x = Bench.opened(TWO);
        Bench.due("work " + text, Bench.work(x, text), answer);
        Bench.due("place in " + text, x.fault(), place);
        Bench.due("none is done: " + text, x.told(2), 0);
        Bench.due("no work: " + text, x.count(2), 0);
    }

    private static void workFaults() {
        workFault("week;weeks;", -9, 5);
        workFault("weekz;", -9, 0);
        workFault("week{;", -9, 4);
        workFault("`week;", -9, 0);
        workFault("week;week", -9, 9);
        workFault("week week;", -9, 5);
        workFault("place 2 0;", -8, 6);
        workFault("place 0 1;", -8, 8);
        workFault("add 0 0;", -8, 6);
        workFault("add 0 25;", -8, 6);
        workFault("add 0;", -9, 5);
        workFault("strike 2;", -8, 7);
        workFault("lose 2;", -8, 5);
        workFault("copy 2;", -8, 5);
        workFault("pay 2;", -8, 4);
        workFault("pay;", -9, 3);
        workFault("again 61[];", -8, 6);
        workFault("again [];", -9, 6);
        workFault("again 1;", -9, 7);
        workFault("again 1[week];", -9, 12);
        workFault("again 1[week;;", -9, 13);
        workFault("again 1[week;", -9, 13);
        workFault("again 1[week;]", -9, 14);
        workFault("week;]", -9, 5);
        workFault("again 1[".repeat(7), -7, 48);
        workFault("again1[".repeat(6) + "]];", -9, 43);
        Bench.due("no signers: pay 0", Bench.work(new PassagePapers(), "pay 0;"), -8);
    }

    private static void workCountsAndLimit() {
        PassagePapers x = Bench.opened(TWO + "voyage 0;stores 0;");
        Bench.due("six open", Bench.work(x, "again1[".repeat(6) + "week;" + "];".repeat(6)), 1);
        Bench.due("again 0", Bench.work(x, "again 0[week;];week;"), 1);
        Bench.due("agains and refused ones do not count", Bench.work(x, "again 3[pay 0;week;];"), 3);
        Bench.due("refused", x.told(9), 3);
        // 60 times: the inner again and 4 steps; 1 + 39 * 5 = 196 are begun, then again and 3 more.
        Bench.due("200 are begun", Bench.work(x, "again 60[again 2[week;];pay 0;pay 0;];"), 80);
        Bench.due("refused then", x.told(9), 79);
        Bench.due("week", x.told(2), 85);
        // 1, then 60 rounds of the inner one alone, each time counted; the weeks behind are 139.
        Bench.due("empty agains are begun, too", Bench.work(x, "again 60[again 60[];];" + "again 60[week;week;week;];"), 138);
    }

    private static void bookFault(String text, int answer, int place) {
        PassagePapers x = Bench.opened(TWO);
        Bench.book(x, "1 2;3 4;");
        Bench.due("book " + text, Bench.book(x, text), answer);
        Bench.due("place in " + text, x.fault(), place);
        Bench.due("the book stays: " + text, x.told(8), 2);
    }

    private static void bookLines() {
        PassagePapers x = Bench.opened(TWO);
        Bench.due("8 lines", Bench.book(x, "0 0;1 0;2 0;3 0;4 0;5 0;6 0; 499 999 ; "), 8);
        Bench.due("told", x.told(8), 8);
        Bench.due("no lines", Bench.book(x, ""), 0);
        Bench.due("told", x.told(8), 0);
        bookFault("500 0;", -8, 0);
        bookFault("0 1000;", -8, 2);
        bookFault("0 1;0 2;", -8, 4);
        bookFault("0 1;00 2;", -8, 4);
        bookFault("0;", -9, 1);
        bookFault("0 1", -9, 3);
        bookFault("week 1;", -9, 0);
        bookFault("0 0;1 0;2 0;3 0;4 0;5 0;6 0;7 0;8 0;", -7, 32);
        // Of faults at one place the least: a week that is none such ahead of a line too many.
        bookFault("0 0;1 0;2 0;3 0;4 0;5 0;6 0;7 0;7 0;", -8, 32);
        bookFault("0 0;1 0;2 0;3 0;4 0;5 0;6 0;7 0;500 0;", -8, 32);
    }

    private static void faultPlaces() {
        PassagePapers x = Bench.opened(TWO);
        Bench.law(x, 0, "1+");
        Bench.due("of the latest text", x.fault(), 2);
        Bench.illegal("no text was read", () -> x.law(0, 1));
        Bench.due("so it stays", x.fault(), 2);
        Bench.feed(x, "week;");
        Bench.due("it stays while bytes come", x.fault(), 2);
        x.work(5);
        Bench.due("none without", x.fault(), -1);
        Bench.work(x, "weak;");
        Bench.due("again one", x.fault(), 0);
        Bench.book(x, "1 1;");
        Bench.due("none again", x.fault(), -1);
    }

    private static void undoing() {
        PassagePapers x = Bench.opened(TWO + "voyage 0;kinsman 0 99;");
        Bench.due("nothing yet", x.undo(), -1);
        Bench.due("work", Bench.work(x, "land;place 0 0;add 0 3;lose 0;week;pay 1;"), 5);
        Bench.due("work", Bench.work(x, "strike 0;copy 0;pay 0;week;pay 1;"), 4);
        Bench.due("refused", x.told(9), 1);
        Bench.due("free", x.signer(0, 3), 3);
        Bench.due("one left", x.undo(), 1);
        Bench.due("refused behind undo", x.told(9), 0);
        Bench.due("bound again", x.signer(0, 3), 2);
        Bench.due("to him", x.signer(0, 4), 0);
        Bench.due("service", x.signer(0, 5), 1);
        Bench.due("months", x.signer(0, 6), 3);
        Bench.due("lost", x.signer(0, 8), 1);
        Bench.due("coins", x.signer(0, 9), 99);
        Bench.due("week", x.told(2), 1);
        Bench.due("none left", x.undo(), 0);
        Bench.due("aboard again", x.told(4), 2);
        Bench.due("no more", x.undo(), -1);
        for (int i = 1; i <= 16; i++) {
            Bench.due("work " + i, Bench.work(x, "week;"), 1);
        }
        Bench.work(x, "pay 0;");
        Bench.due("17th", Bench.work(x, "week;"), -20);
        Bench.due("17th, not even read", Bench.work(x, "weeks;"), -20);
        Bench.due("no fault", x.fault(), -1);
        Bench.due("tape", x.count(1), 0);
        Bench.feed(x, "week;");
        Bench.illegal("n is looked at first", () -> x.work(21));
        Bench.due("week", x.told(2), 16);
        Bench.due("undo", x.undo(), 15);
        Bench.due("work again", x.work(5), 1);
        Bench.law(x, 0, "1+");
        Bench.due("-20 takes the fault away", Bench.work(x, "week;"), -20);
        Bench.due("so", x.fault(), -1);
    }
}
