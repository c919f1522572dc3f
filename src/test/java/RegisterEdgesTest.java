/** Promise 3, with all that the document says of a REGISTER and of FAULTS: a sentence, a test. */
public final class RegisterEdgesTest {
    private static final String TWO = "signer 5 1 1;signer 4 2 1;taker 1 20 2;";

    public static void main(String[] args) {
        noLaws();
        noBook();
        noImages();
        nothingToUndo();
        allAnew();
        withoutKeepsNothing();
        faultLessTen();
        allStays();
        sixtyClauses();
        signersTooMany();
        takersTooMany();
        signerNumbers();
        kinByLikeK();
        takerNumbers();
        kinsmanToldAhead();
        kinsmanCoins();
        kinsmanLast();
        stores();
        voyage();
        numbersWhole();
        wordsWhole();
        blanks();
        firstFromLeft();
        firstByte();
        cannotStand();
        endsTooEarly();
        numberNoneSuch();
        ofOneTheLeast();
        Bench.end("RegisterEdgesTest");
    }

    /** A register with a fault: its answer, its place, and that all stays. */
    private static void fault(String text, int answer, int place) {
        PassagePapers x = Bench.opened(TWO);
        String before = Bench.picture(x);
        Bench.due(text, Bench.register(x, text), answer);
        Bench.due("place in " + text, x.fault(), place);
        Bench.due("all stays: " + text, Bench.picture(x), before);
    }

    private static void signers(String text, int many) {
        PassagePapers x = Bench.opened(TWO);
        Bench.due(text, Bench.register(x, text), many);
        Bench.due("no fault in " + text, x.fault(), -1);
    }

    private static void noLaws() {
        Bench.sentence(3, "(no LAWS ..)");
        PassagePapers x = Bench.opened(TWO);
        Bench.law(x, 0, "7");
        Bench.law(x, 1, "8");
        Bench.register(x, TWO);
        Bench.due("law 0", x.asks(0, 0), 260);
        Bench.due("law 1", x.asks(0, 1), 260);
        Bench.due("law 0, months", x.would(1, 99, 0, 0, 0, 0), 448);
    }

    private static void noBook() {
        Bench.sentence(3, "(no .. BOOK ..)");
        PassagePapers x = Bench.opened(TWO);
        Bench.book(x, "0 7;1 6;");
        Bench.due("no terms", x.terms(0, 0), 0);
        Bench.register(x, TWO);
        Bench.due("no lines", x.told(8), 0);
        Bench.due("all terms", x.terms(0, 0), 225);
    }

    private static void noImages() {
        Bench.sentence(3, "(no .. IMAGES ..)");
        PassagePapers x = Bench.opened(TWO);
        x.image();
        x.image();
        x.image();
        Bench.register(x, TWO);
        Bench.due("none", x.count(0), 0);
        Bench.due("none to restore", x.restore(), -1);
        Bench.due("room for a first one", x.image(), 1);
    }

    private static void nothingToUndo() {
        Bench.sentence(3, "(.. nothing to undo)");
        PassagePapers x = Bench.opened(TWO);
        for (int i = 0; i < 16; i++) {
            Bench.done(x, "week;");
        }
        Bench.register(x, TWO);
        Bench.due("none", x.count(2), 0);
        Bench.due("none to undo", x.undo(), -1);
        Bench.due("a work can be done", Bench.work(x, "week;"), 1);
        Bench.due("and undone", x.undo(), 0);
    }

    private static void allAnew() {
        Bench.sentence(3, "It is WEEK 0 at first, all SIGNERS are aboard, nobody was hungry, no months are added,"
                + " no paper is lost, STORES are as told.");
        PassagePapers x = Bench.opened(TWO + "voyage 1;stores 1;kinsman 0 70;");
        Bench.done(x, "lose 1;week;land;place 0 0;add 0 3;lose 0;week;pay 0;");
        Bench.work(x, "land;");
        Bench.due("changed", Bench.picture(x),
                "2 1 2 0 0 1 0 1 0 1 | 5 1 1 3 -1 1 3 0 1 3 272 272 225 | 4 2 1 1 -1 0 0 1 1 0 208 208 225 / 1 20 2 0 ");
        Bench.register(x, TWO + "voyage 1;stores 1;kinsman 0 70;");
        Bench.due("anew", Bench.picture(x),
                "2 1 0 1 2 0 0 0 0 1 | 5 1 1 0 -1 0 0 0 0 70 260 260 225 | 4 2 1 0 -1 0 0 0 0 0 208 208 225 / 1 20 2 0 ");
        Bench.due("ahead of any work no steps were refused", x.told(9), 0);
        Bench.law(x, 0, "placed*10");
        Bench.due("not placed", x.asks(0, 0), 0);
        Bench.done(x, "week;");
        Bench.due("so this week", x.asks(0, 0), 10);
    }

    private static void withoutKeepsNothing() {
        Bench.sentence(3, "stores .. 60 without; voyage .. 8 without; kinsman .. 0 without (nothing of an older REGISTER)");
        PassagePapers x = Bench.opened(TWO + "taker 1 1 1;stores 7;voyage 3;kinsman 0 70;kinsman 1 71;");
        Bench.due("another one", Bench.register(x, "signer 1 0 0;signer 1 0 0;"), 2);
        Bench.due("all of it", Bench.picture(x),
                "2 0 0 60 2 0 0 0 0 8 | 1 0 0 0 -1 0 0 0 0 0 52 52 225 | 1 0 0 0 -1 0 0 0 0 0 52 52 225 ");
        // A text with a fault must not leave anything behind for the next one either.
        Bench.due("a fault", Bench.register(x, "taker 0 1 1;signer 9 5 4;kinsman 0 999;stores 1;voyage 1;x"), -9);
        Bench.due("a third one", Bench.register(x, "signer 2 0 0;"), 1);
        Bench.due("all of it", Bench.picture(x), "1 0 0 60 1 0 0 0 0 8 | 2 0 0 0 -1 0 0 0 0 0 104 104 225 ");
    }

    private static void faultLessTen() {
        Bench.sentence(3, "or the FAULT less 10");
        fault("x", -9, 0);
        fault("stores 401;", -8, 7);
        fault("taker 0 1 1;".repeat(6), -7, 60);
    }

    private static void allStays() {
        Bench.sentence(3, "or the FAULT less 10 (all stays)");
        PassagePapers x = Bench.opened(TWO + "voyage 0;kinsman 1 5;");
        Bench.law(x, 0, "71");
        Bench.law(x, 1, "81");
        Bench.book(x, "0 71;1 70;");
        Bench.done(x, "week;");
        x.image();
        Bench.work(x, "land;place 0 0;add 0 3;lose 1;week;land;");
        String before = Bench.picture(x);
        Bench.due("fault", Bench.register(x, "signer 1 0 0;stores 5;voyage 3;taker 0 1 1;signer"), -9);
        Bench.due("picture", Bench.picture(x), before);
        Bench.due("refused steps", x.told(9), 1);
        Bench.due("images", x.count(0), 1);
        Bench.due("works", x.count(2), 2);
        Bench.due("undo", x.undo(), 1);
        Bench.due("week", x.told(2), 1);
        Bench.due("restore", x.restore(), 0);
        Bench.due("law 0", x.asks(0, 0), 71);
        Bench.due("law 1", x.asks(0, 1), 81);
    }

    private static void sixtyClauses() {
        Bench.sentence(3, "{ CLAUSE \";\" }, at most 60; FAULT 3 a CLAUSE too many (at its word)");
        signers("stores1;".repeat(60), 0);
        signers("stores1;".repeat(59), 0);
        signers("stores1;".repeat(60) + "   ", 0);
        fault("stores1;".repeat(61), -7, 480);
        fault("stores1;".repeat(60) + "  voyage 1;", -7, 482);
        fault("stores1;".repeat(60) + "kinsman 9 9;", -7, 480);
        fault("stores1;".repeat(60) + "signer", -7, 480);
        fault("stores1;".repeat(60) + "taker", -7, 480);
        signers("signer 1 0 0;".repeat(2) + "stores1;".repeat(58), 2);
        fault("signer 1 0 0;".repeat(2) + "stores1;".repeat(59), -7, 26 + 8 * 58);
        fault("stores1;".repeat(60) + ";", -9, 480);
    }

    private static void signersTooMany() {
        Bench.sentence(3, "SIGNERS, numbered from 0 on, 8 at most; FAULT 3 a SIGNER too many (at its word)");
        PassagePapers x = Bench.opened("signer 1 0 0;signer 2 0 0;signer 3 0 0;signer 4 0 0;"
                + "signer 5 0 0;signer 6 0 0;signer 7 0 0;signer 8 0 0;");
        Bench.due("8", x.told(0), 8);
        for (int s = 0; s < 8; s++) {
            Bench.due("numbered " + s, x.signer(s, 0), s + 1);
        }
        Bench.noSuch("8", () -> x.signer(8, 0));
        fault("signer 1 0 0;".repeat(9), -7, 104);
        fault("signer 1 0 0;".repeat(8) + "stores 1;  signer", -7, 115);
        fault("signer 1 0 0;".repeat(8) + "signer 0 9 9;", -7, 104);
        fault("signer 1 0 0;".repeat(8) + "signers", -9, 104);
    }

    private static void takersTooMany() {
        Bench.sentence(3, "TAKERS likewise, 5 at most; FAULT 3 a TAKER too many (at its word)");
        PassagePapers x = Bench.opened("taker 0 1 1;taker 0 2 1;taker 0 3 1;taker 0 4 1;taker 0 5 1;");
        Bench.due("5", x.told(1), 5);
        for (int t = 0; t < 5; t++) {
            Bench.due("numbered " + t, x.taker(t, 1), t + 1);
        }
        Bench.noSuch("5", () -> x.taker(5, 0));
        fault("taker 0 1 1;".repeat(6), -7, 60);
        fault("taker 0 1 1;".repeat(5) + " signer 1 0 0; taker 9", -7, 75);
        signers("signer 1 0 0;".repeat(8) + "taker 0 1 1;".repeat(5), 8);
    }

    private static void signerNumbers() {
        Bench.sentence(3, "signed for Y YEARS, 1 to 9");
        fault("signer 0 0 0;", -8, 7);
        fault("signer 10 0 0;", -8, 7);
        signers("signer 1 0 0;signer 9 0 0;", 2);
        Bench.sentence(3, "of TRADE T, 0 to 5");
        fault("signer 1 6 0;", -8, 9);
        signers("signer 1 0 0;signer 1 5 0;", 2);
        Bench.sentence(3, "K, 1 to 4 .. K 0");
        fault("signer 1 0 5;", -8, 11);
        signers("signer 1 0 0;signer 1 0 4;", 2);
        PassagePapers x = Bench.opened("signer 9 5 4;signer 1 0 0;");
        Bench.due("as told", Bench.picture(x),
                "2 0 0 60 2 0 0 0 0 8 | 9 5 4 0 -1 0 0 0 0 0 468 468 225 | 1 0 0 0 -1 0 0 0 0 0 52 52 225 ");
        fault("signer 1 0 -1;", -9, 11);
    }

    private static void kinByLikeK() {
        Bench.sentence(3, "those of like K, 1 to 4, are KIN");
        PassagePapers x = Bench.opened("signer 1 0 4;signer 1 0 1;signer 1 0 4;signer 1 0 1;signer 1 0 2;signer 1 0 3;");
        Bench.due("K 4", x.kin(0), 4);
        Bench.due("K 4", x.kin(2), 1);
        Bench.due("K 1", x.kin(1), 8);
        Bench.due("K 2, alone", x.kin(4), 0);
        Bench.due("K 3, alone", x.kin(5), 0);
        Bench.sentence(3, "K 0: he has none");
        PassagePapers y = Bench.opened("signer 1 0 0;signer 1 0 0;signer 1 0 1;");
        Bench.due("K 0", y.kin(0), 0);
        Bench.due("K 0", y.kin(1), 0);
        Bench.due("K 1", y.kin(2), 0);
    }

    private static void takerNumbers() {
        Bench.sentence(3, "looks for TRADE T (0 to 5)");
        fault("taker 6 1 1;", -8, 6);
        Bench.sentence(3, "gives P for a YEAR, 1 to 40");
        fault("taker 0 0 1;", -8, 8);
        fault("taker 0 41 1;", -8, 8);
        Bench.sentence(3, "has room for C, 1 to 4");
        fault("taker 0 1 0;", -8, 10);
        fault("taker 0 1 5;", -8, 10);
        PassagePapers x = Bench.opened("taker 0 1 1;taker 5 40 4;");
        Bench.due("as told", Bench.picture(x), "0 2 0 60 0 0 0 0 0 8 / 0 1 1 0 / 5 40 4 0 ");
    }

    private static void kinsmanToldAhead() {
        Bench.sentence(3, "for SIGNER S, told ahead");
        fault("kinsman 0 1;signer 1 0 0;", -8, 8);
        fault("signer 1 0 0;kinsman 1 1;signer 1 0 0;", -8, 21);
        fault("signer 1 0 0;".repeat(8) + "kinsman 8 1;", -8, 112);
        signers("signer 1 0 0;".repeat(8) + "kinsman 7 1;", 8);
        signers("signer 1 0 0;kinsman 0 1;", 1);
    }

    private static void kinsmanCoins() {
        Bench.sentence(3, "N coins for SIGNER S, told ahead, 0 to 999; 0 without");
        PassagePapers x = Bench.opened("signer 1 0 0;signer 1 0 0;signer 1 0 0;kinsman 1 999;kinsman 2 0;");
        Bench.due("without", x.signer(0, 9), 0);
        Bench.due("999", x.signer(1, 9), 999);
        Bench.due("0", x.signer(2, 9), 0);
        fault("signer 1 0 0;kinsman 0 1000;", -8, 23);
        fault("signer 1 0 0;kinsman 0 ;", -9, 23);
    }

    private static void kinsmanLast() {
        Bench.sentence(3, "of one S the last counts");
        PassagePapers x = Bench.opened("signer 1 0 0;kinsman 0 5;signer 1 0 0;kinsman 1 6;kinsman 0 3;kinsman 1 0;");
        Bench.due("of 0", x.signer(0, 9), 3);
        Bench.due("of 1", x.signer(1, 9), 0);
    }

    private static void stores() {
        Bench.sentence(3, "\"stores\" N (0 to 400");
        Bench.due("0", Bench.opened("stores 0;").told(3), 0);
        Bench.due("400", Bench.opened("stores 400;").told(3), 400);
        fault("stores 401;", -8, 7);
        Bench.sentence(3, "60 without; the last counts (stores)");
        Bench.due("without", Bench.opened("signer 1 0 0;").told(3), 60);
        Bench.due("the last", Bench.opened("stores 400;stores 0;").told(3), 0);
    }

    private static void voyage() {
        Bench.sentence(3, "\"voyage\" W (it lasts W WEEKS, 0 to 20");
        Bench.due("0", Bench.opened("voyage 0;").told(10), 0);
        Bench.due("20", Bench.opened("voyage 20;").told(10), 20);
        fault("voyage 21;", -8, 7);
        Bench.sentence(3, "8 without; the last counts (voyage)");
        Bench.due("without", Bench.opened("signer 1 0 0;").told(10), 8);
        Bench.due("the last", Bench.opened("voyage 20;voyage 0;").told(10), 0);
    }

    private static void numbersWhole() {
        Bench.sentence(3, "Numbers: digits, as many as stand there");
        fault("signer 111;", -8, 7);
        fault("signer 1 00 0 0;", -9, 14);
        PassagePapers x = Bench.opened("stores " + "0".repeat(500) + "17;");
        Bench.due("500 digits ahead of it", x.told(3), 17);
        Bench.due("all digits", Bench.opened("voyage 3;stores 298;").told(3), 298);
        Bench.due("all digits", Bench.opened("stores 160;voyage 7;stores 354;").told(3), 354);
        fault("stores 1 2;", -9, 9);
        fault("stores 1:2;", -9, 8);
        fault("stores 1/2;", -9, 8);
    }

    private static void wordsWhole() {
        Bench.sentence(3, "WORDS: small letters, as many as stand there");
        signers("signer5 1 1;signer5 1 1;", 2);
        fault("signerx5 1 1;", -9, 0);
        fault("signe 1 1 1;", -9, 0);
        fault("signersigner 1 1 1;", -9, 0);
        fault("sto res 1;", -9, 0);
        fault("Stores 1;", -9, 0);
        fault("storeS 1;", -9, 0);
        fault("storesz 1;", -9, 0);
        fault("astores 1;", -9, 0);
        fault("stores{1;", -9, 6);
        fault("stores`1;", -9, 6);
        fault("week;", -9, 0);
    }

    private static void blanks() {
        Bench.sentence(3, "blanks (32) may stand ahead of all these, and at the end");
        PassagePapers x = Bench.opened("   signer   9   5   4   ;   stores   3   ;   ");
        Bench.due("signer", x.signer(0, 0), 9);
        Bench.due("stores", x.told(3), 3);
        signers("      ", 0);
        signers("signer 1 0 0;", 1);
        fault("signer\t1 0 0;", -9, 6);
        fault("signer 1 0 0;\n", -9, 13);
        fault("signer 1 0 0;" + (char) 160, -9, 13);
        fault("signer 1 0 0;" + (char) 0, -9, 13);
        fault("!", -9, 0);
    }

    private static void firstFromLeft() {
        Bench.sentence(3, "FAULTS, the first from the left");
        fault("stores 401;x", -8, 7);
        fault("stores x;stores 401;", -9, 7);
        fault("signer 1 0 0;".repeat(9) + "x", -7, 104);
        fault("stores 401;" + "signer 1 0 0;".repeat(9), -8, 7);
        fault("signer 0 6 5", -8, 7);
    }

    private static void firstByte() {
        Bench.sentence(3, "FAULTS .. at its first byte");
        fault("stores    401;", -8, 10);
        fault("stores 000401;", -8, 7);
        fault("stores 1;  storage 1;", -9, 11);
        fault("signer 1 0 0;".repeat(8) + "   signer 1 0 0;", -7, 107);
    }

    private static void cannotStand() {
        Bench.sentence(3, "1 what can't stand there");
        fault(";", -9, 0);
        fault("7;", -9, 0);
        fault("stores 7;;", -9, 9);
        fault("stores;", -9, 6);
        fault("stores stores;", -9, 7);
        fault("signer 1 0;", -9, 10);
        fault("signer 1 0 0 0;", -9, 13);
        fault("signer 1 0 0 signer 1 0 0;", -9, 13);
        fault("signer 1,0,0;", -9, 8);
        fault("stores -1;", -9, 7);
        fault("stores +1;", -9, 7);
        fault("stores 1]", -9, 8);
        fault("stores " + (char) 255 + ";", -9, 7);
        fault("stores " + (char) 178 + ";", -9, 7);
    }

    private static void endsTooEarly() {
        Bench.sentence(3, "(at the length, if the text ends too early)");
        fault("stores", -9, 6);
        fault("stores ", -9, 7);
        fault("stores 1", -9, 8);
        fault("stores 1   ", -9, 11);
        fault("signer 1", -9, 8);
        fault("signer 1 0 0", -9, 12);
        fault("stores 1;kinsman", -9, 16);
        // A word that is cut is another word: it can't stand where it begins.
        fault("stores 1;kinsma", -9, 9);
    }

    private static void numberNoneSuch() {
        Bench.sentence(3, "2 a number that is none such");
        fault("stores 4294967296;", -8, 7);
        fault("stores 4294967301;", -8, 7);
        fault("stores 2147483648;", -8, 7);
        fault("stores 18446744073709551617;", -8, 7);
        fault("stores " + "9".repeat(590) + ";", -8, 7);
        fault("signer 1 0 0;kinsman 4294967296 1;", -8, 21);
    }

    private static void ofOneTheLeast() {
        Bench.sentence(3, "of one the least");
        fault("stores1;".repeat(60) + "stored", -9, 480);
        fault("stores1;".repeat(60) + "7", -9, 480);
        fault("signer 1 0 0;".repeat(8) + "signe", -9, 104);
    }
}
