/** Promises 5 and 8, with all that the document says of WORK and its STEPS: a sentence, a test. */
public final class WorkEdgesTest {
    private static final String PLAIN = "signer 5 1 1;signer 4 2 1;taker 1 20 2;taker 0 1 1;voyage 0;";

    public static void main(String[] args) {
        doneSteps();
        faultNoneIsDone();
        sixteenWorks();
        nothingIsRead();
        twentyAheadOfFault();
        notUndoneWorks();
        undoLeft();
        undoNone();
        undoWhat();
        undoKeepsTheRest();
        stepNumbers();
        againNumber();
        againEmpty();
        workWords();
        workBlanks();
        workEndsTooEarly();
        sixAgains();
        seventhAgain();
        inOrder();
        refusedChangesNothing();
        twoHundred();
        twoHundredAgains();
        twoHundredRefused();
        twoHundredLeftOut();
        landNobody();
        landTooSoon();
        landAll();
        placeWhere();
        placeRoom();
        placeService();
        addBound();
        addMost();
        strikeNone();
        loseAndCopy();
        payWhere();
        payCoins();
        payCut();
        week900();
        weekEats();
        weekStoresGone();
        weekService();
        weekThenFree();
        Bench.end("WorkEdgesTest");
    }

    private static void fault(String text, int answer, int place) {
        PassagePapers x = Bench.opened(PLAIN);
        Bench.work(x, "week;pay 0;");
        String before = Bench.picture(x);
        Bench.due(text, Bench.work(x, text), answer);
        Bench.due("place in " + text, x.fault(), place);
        Bench.due("none is done: " + text, Bench.picture(x), before);
        Bench.due("no work: " + text, x.count(2), 1);
        Bench.due("the latest work's refused: " + text, x.told(9), 1);
    }

    private static void work(PassagePapers x, String text, int done, int refused) {
        Bench.due("done: " + text, Bench.work(x, text), done);
        Bench.due("refused: " + text, x.told(9), refused);
        Bench.due("no fault: " + text, x.fault(), -1);
    }

    /** Each step, alone, is refused behind these, and nothing but the count of works is another one. */
    private static void refused(String register, String behind, String... steps) {
        for (String step : steps) {
            PassagePapers x = Bench.opened(register);
            Bench.done(x, behind);
            String before = Bench.picture(x);
            work(x, step + ";", 0, 1);
            Bench.due("nothing changed by " + step, Bench.picture(x), before);
            Bench.due("a work like others", x.count(2), 2);
        }
    }

    private static void doneSteps() {
        Bench.sentence(5, "how many STEPS were done (agains not counted, nor REFUSED ones)");
        PassagePapers x = Bench.opened(PLAIN);
        work(x, "week;", 1, 0);
        work(x, "again 3[week;];", 3, 0);
        work(x, "again 3[again 2[week;];];", 6, 0);
        work(x, "pay 0;", 0, 1);
        work(x, "again 3[pay 0;week;copy 0;];", 3, 6);
        work(x, "", 0, 0);
        work(x, "again 60[];again 0[week;];", 0, 0);
        Bench.due("weeks", x.told(2), 13);
    }

    private static void faultNoneIsDone() {
        Bench.sentence(5, "or the FAULT less 10 (none is)");
        fault("week;week;x", -9, 10);
        fault("week;land;place 0 2;", -8, 18);
        fault("week;" + "again1[".repeat(7), -7, 47);
        fault("again 60[week;];week", -9, 20);
    }

    private static PassagePapers sixteen() {
        PassagePapers x = Bench.opened(PLAIN);
        for (int i = 1; i <= 16; i++) {
            Bench.due("work " + i, Bench.work(x, "week;"), 1);
            Bench.due("works", x.count(2), i);
        }
        return x;
    }

    private static void sixteenWorks() {
        Bench.sentence(5, "-20 ..: 16 WORKS are there that were not undone");
        PassagePapers x = sixteen();
        Bench.due("17th", Bench.work(x, "week;"), -20);
        Bench.due("week", x.told(2), 16);
        Bench.due("works", x.count(2), 16);
        Bench.due("17th, of no bytes", x.work(0), -20);
    }

    private static void nothingIsRead() {
        Bench.sentence(5, "-20 .. (nothing is read, there is no FAULT, the TAPE is empty then)");
        PassagePapers x = sixteen();
        Bench.law(x, 0, "1+");
        Bench.due("a fault", x.fault(), 2);
        Bench.feed(x, "pay 0;week;".repeat(9));
        Bench.due("the tape", x.count(1), 100);
        Bench.due("17th", x.work(11), -20);
        Bench.due("no fault", x.fault(), -1);
        Bench.due("the tape is empty", x.count(1), 0);
        Bench.due("the steps refused by the latest work", x.told(9), 0);
        Bench.due("nothing was done", x.told(2), 16);
    }

    private static void twentyAheadOfFault() {
        Bench.sentence(5, "-20 ahead of that");
        PassagePapers x = sixteen();
        Bench.due("a text that can't stand", Bench.work(x, "weeks;"), -20);
        Bench.due("no fault", x.fault(), -1);
        Bench.due("a number that is none", Bench.work(x, "pay 9;"), -20);
        Bench.due("a 7th again", Bench.work(x, "again1[".repeat(7)), -20);
        Bench.due("no fault", x.fault(), -1);
        Bench.feed(x, "week;");
        Bench.illegal("an n that is none is refused", () -> x.work(21));
        Bench.illegal("an n that is none is refused", () -> x.work(-1));
        Bench.due("the tape stays", x.count(1), 20);
    }

    private static void notUndoneWorks() {
        Bench.sentence(5, "16 WORKS are there that were not undone (one undone, there is room)");
        PassagePapers x = sixteen();
        Bench.due("undo", x.undo(), 15);
        Bench.due("16th again", Bench.work(x, "week;"), 1);
        Bench.due("17th", Bench.work(x, "week;"), -20);
        Bench.due("an image of them", x.image(), 1);
        Bench.undo(x, 16);
        Bench.due("a work", Bench.work(x, "week;"), 1);
        Bench.due("restored", x.restore(), 0);
        Bench.due("16 are there again", Bench.work(x, "week;"), -20);
        Bench.due("works", x.count(2), 16);
        for (int left = 15; left >= 0; left--) {
            Bench.due("undo", x.undo(), left);
            Bench.due("week", x.told(2), left);
        }
    }

    private static void undoLeft() {
        Bench.sentence(8, "The latest WORK that was done is undone: how many are left");
        PassagePapers x = Bench.opened(PLAIN);
        Bench.done(x, "week;");
        Bench.done(x, "week;week;");
        work(x, "", 0, 0);
        work(x, "pay 0;", 0, 1);
        Bench.due("a text with a fault is no work", Bench.work(x, "week"), -9);
        Bench.due("of refused steps alone", x.undo(), 3);
        Bench.due("week", x.told(2), 3);
        Bench.due("of no steps", x.undo(), 2);
        Bench.due("week", x.told(2), 3);
        Bench.due("of two", x.undo(), 1);
        Bench.due("week", x.told(2), 1);
        Bench.due("of one", x.undo(), 0);
        Bench.due("week", x.told(2), 0);
    }

    private static void undoNone() {
        Bench.sentence(8, "-1: there is none");
        Bench.due("a new object", new PassagePapers().undo(), -1);
        PassagePapers x = Bench.opened(PLAIN);
        Bench.due("a new register", x.undo(), -1);
        Bench.done(x, "week;");
        x.undo();
        String before = Bench.picture(x);
        Bench.due("undone already", x.undo(), -1);
        Bench.due("and again", x.undo(), -1);
        Bench.due("nothing changed", Bench.picture(x), before);
        Bench.due("works", x.count(2), 0);
        Bench.due("no refused call", x.status(1) + x.status(0), 0);
    }

    private static void undoWhat() {
        Bench.sentence(8, "is undone (all that it changed)");
        PassagePapers x = Bench.opened(PLAIN + "kinsman 0 99;kinsman 1 9;stores 3;");
        String first = Bench.picture(x);
        Bench.done(x, "lose 0;week;week;");
        String second = Bench.picture(x);
        Bench.done(x, "land;place 0 0;place 1 0;add 0 3;add 1 5;lose 1;week;");
        String third = Bench.picture(x);
        Bench.done(x, "strike 0;copy 0;pay 0;week;");
        Bench.due("last", x.undo(), 2);
        Bench.due("as behind the second", Bench.picture(x), third);
        Bench.due("second", x.undo(), 1);
        Bench.due("as behind the first", Bench.picture(x), second);
        Bench.due("first", x.undo(), 0);
        Bench.due("as at first", Bench.picture(x), first);
    }

    private static void undoKeepsTheRest() {
        Bench.sentence(8, "is undone (laws, book, tape and images are no part of it)");
        PassagePapers x = Bench.opened(PLAIN);
        Bench.done(x, "week;");
        Bench.law(x, 0, "7");
        Bench.law(x, 1, "8");
        Bench.book(x, "0 7;");
        x.image();
        Bench.feed(x, "week;");
        x.undo();
        Bench.due("law 0", x.asks(0, 0), 7);
        Bench.due("law 1", x.asks(0, 1), 8);
        Bench.due("book", x.told(8), 1);
        Bench.due("images", x.count(0), 1);
        Bench.due("tape", x.count(1), 20);
    }

    private static void stepNumbers() {
        Bench.sentence(5, "\"place\" S B (a SIGNER, a TAKER)");
        fault("place 2 0;", -8, 6);
        fault("place 0 2;", -8, 8);
        fault("place 2 2;", -8, 6);
        fault("place 4294967296 0;", -8, 6);
        fault("place 0;", -9, 7);
        work(Bench.opened(PLAIN), "land;place 1 1;place 0 0;", 3, 0);
        Bench.sentence(5, "\"add\" S N (1 to 24)");
        fault("add 0 0;", -8, 6);
        fault("add 0 25;", -8, 6);
        fault("add 2 1;", -8, 4);
        fault("add 0;", -9, 5);
        work(Bench.opened(PLAIN), "land;place 1 1;add 1 1;add 1 24;", 4, 0);
        Bench.sentence(5, "\"strike\" S, \"lose\" S, \"copy\" S, \"pay\" S");
        fault("strike 2;", -8, 7);
        fault("lose 2;", -8, 5);
        fault("copy 2;", -8, 5);
        fault("pay 2;", -8, 4);
        fault("strike;", -9, 6);
        fault("lose;", -9, 4);
        fault("copy;", -9, 4);
        fault("pay;", -9, 3);
        fault("pay 0 0;", -9, 6);
        fault("land 0;", -9, 5);
        fault("week 1;", -9, 5);
        PassagePapers none = new PassagePapers();
        Bench.due("no signers", Bench.work(none, "lose 0;"), -8);
        Bench.due("at", none.fault(), 5);
        PassagePapers takerless = Bench.opened("signer 1 0 0;");
        Bench.due("no takers", Bench.work(takerless, "place 0 0;"), -8);
        Bench.due("at", takerless.fault(), 8);
        work(Bench.opened("signer 1 0 0;".repeat(8)), "lose 7;", 1, 0);
        Bench.due("signer 8", Bench.work(Bench.opened("signer 1 0 0;".repeat(8)), "lose 8;"), -8);
    }

    private static void againNumber() {
        Bench.sentence(5, "\"again\" N \"[\" { STEP \";\" } \"]\" (N 0 to 60)");
        fault("again 61[];", -8, 6);
        fault("again [];", -9, 6);
        fault("again 4294967296[week;];", -8, 6);
        PassagePapers x = Bench.opened(PLAIN);
        work(x, "again 0[week;];", 0, 0);
        Bench.due("none", x.told(2), 0);
        work(x, "again 1[week;];", 1, 0);
        Bench.due("one", x.told(2), 1);
        work(x, "again 60[week;];", 60, 0);
        Bench.due("sixty", x.told(2), 61);
        work(x, "again 2[again 0[week;];week;];", 2, 0);
        Bench.due("two", x.told(2), 63);
    }

    private static void againEmpty() {
        Bench.sentence(5, "\"[\" { STEP \";\" } \"]\" (no STEP in it)");
        work(Bench.opened(PLAIN), "again 60[];", 0, 0);
        work(Bench.opened(PLAIN), "again2[ ] ; week ; ", 1, 0);
        work(Bench.opened(PLAIN), "again2[again2[];week;again2[];];", 2, 0);
        fault("again 2[;];", -9, 8);
        fault("again 2[week];", -9, 12);
        fault("again 2[week;;];", -9, 13);
        fault("again 2[week;]]", -9, 14);
        fault("]", -9, 0);
        fault("again 2(week;);", -9, 7);
    }

    private static void workWords() {
        Bench.sentence(5, "STEP: \"land\", \"place\" .. or \"again\" (1 what can't stand there)");
        fault("weeks;", -9, 0);
        fault("wee;", -9, 0);
        fault("weekz;", -9, 0);
        fault("aweek;", -9, 0);
        fault("Week;", -9, 0);
        fault(";", -9, 0);
        fault("week;;", -9, 5);
        fault("week week;", -9, 5);
        fault("week,", -9, 4);
        fault("3;", -9, 0);
        fault("least[1,2];", -9, 0);
        fault("landweek;", -9, 0);
        fault("week;" + (char) 200, -9, 5);
    }

    private static void workBlanks() {
        Bench.sentence(5, "blanks (32) may stand ahead of all these, and at the end");
        work(Bench.opened(PLAIN), "  land  ;  place  1  1  ;lose0;again2[week;];", 5, 0);
        work(Bench.opened(PLAIN), "   again   2   [   week   ;   ]   ;   ", 2, 0);
        work(Bench.opened(PLAIN), "      ", 0, 0);
        fault("we ek;", -9, 0);
        fault("add 0 1 2;", -9, 8);
        fault("week;\tweek;", -9, 5);
    }

    private static void workEndsTooEarly() {
        Bench.sentence(5, "1 .. (at the length, if the text ends too early)");
        fault("week", -9, 4);
        fault("week  ", -9, 6);
        fault("place", -9, 5);
        fault("place 0", -9, 7);
        fault("place 0 0", -9, 9);
        fault("add 0", -9, 5);
        fault("again", -9, 5);
        fault("again 2", -9, 7);
        fault("again 2[", -9, 8);
        fault("again 2[week", -9, 12);
        fault("again 2[week;", -9, 13);
        fault("again 2[week;  ", -9, 15);
        fault("again 2[week;]", -9, 14);
    }

    private static void sixAgains() {
        Bench.sentence(5, "a 7th of ( least most again that is open at one time (six may be; closed ones are not)");
        PassagePapers x = Bench.opened(PLAIN);
        work(x, "again1[".repeat(6) + "week;" + "];".repeat(6), 1, 0);
        work(x, "again2[".repeat(6) + "week;" + "];".repeat(6), 64, 0);
        work(x, "again1[week;];".repeat(8), 8, 0);
        work(x, "again2[" + "again1[week;];".repeat(7) + "];", 14, 0);
        work(x, "again1[".repeat(5) + "again1[];again1[week;];" + "];".repeat(5), 1, 0);
        Bench.due("weeks", x.told(2), 1 + 64 + 8 + 14 + 1);
    }

    private static void seventhAgain() {
        Bench.sentence(5, "3 .. a 7th of ( least most again that is open at one time");
        fault("again 1[".repeat(7), -7, 48);
        fault("again1[".repeat(7) + "week;" + "];".repeat(7), -7, 42);
        fault("again1[".repeat(6) + "week;  again", -7, 49);
        fault("again1[".repeat(6) + "];" + "again1[".repeat(2), -7, 51);
        fault("again0[".repeat(6) + "again", -7, 42);
        fault("again1[".repeat(6) + "agains", -9, 42);
        fault("again1[".repeat(20), -7, 42);
    }

    private static void inOrder() {
        Bench.sentence(5, "STEPS are done in order");
        PassagePapers x = Bench.opened(PLAIN);
        work(x, "place 0 0;land;place 0 0;", 2, 1);
        work(x, "again 2[place 1 0;add 1 2;];lose 1;", 4, 1);
        Bench.due("months", x.signer(1, 6), 4);
        work(x, "again 3[lose 1;copy 1;];lose 1;", 6, 1);
        Bench.due("lost", x.signer(1, 8), 1);
    }

    private static void refusedChangesNothing() {
        Bench.sentence(5, "one that can't be done is REFUSED, and changes nothing");
        String register = PLAIN + "voyage 1;kinsman 0 65;kinsman 1 51;";
        refused(register, "", "land", "place 0 0", "add 0 1", "strike 0", "copy 0", "pay 0");
        refused(register, "week;land;lose 1;", "land", "add 0 1", "strike 0", "copy 0", "lose 1", "pay 1");
        refused(register, "week;land;lose 1;place 1 1;",
                "place 1 0", "place 1 1", "place 0 1", "strike 1", "lose 1", "pay 1", "land");
        refused(register, "week;land;lose 1;place 1 1;pay 0;",
                "place 0 0", "add 0 1", "strike 0", "lose 0", "copy 0", "pay 0");
        PassagePapers x = Bench.opened(PLAIN);
        // What is behind a refused step is done all the same.
        work(x, "pay 0;week;pay 0;week;", 2, 2);
    }

    private static void twoHundred() {
        Bench.sentence(5, "200 STEPS at most are begun by one WORK");
        PassagePapers x = Bench.opened(PLAIN);
        // 1, four times 1 and 48, and three more: 200; a fourth one is left out.
        work(x, "again 4[again 48[week;];];week;week;week;", 195, 0);
        Bench.due("week", x.told(2), 195);
        work(x, "again 4[again 48[week;];];week;week;week;week;", 195, 0);
        Bench.due("week", x.told(2), 390);
        // 1, three times 1 and 49, then 1 and 48: the last one is left out in the midst.
        work(x, "again 4[again 49[week;];];", 195, 0);
        Bench.due("week", x.told(2), 585);
        work(x, "again 60[week;week;week;week;];", 199, 0);
        Bench.due("week", x.told(2), 784);
        work(x, "again 3[again 60[week;];];", 116, 64);
        Bench.due("the next work begins anew", x.told(2), 900);
    }

    private static void twoHundredAgains() {
        Bench.sentence(5, "(an again, too, each time it is come to");
        PassagePapers x = Bench.opened(PLAIN);
        // 1 and 60, 1 and 60, 1 and 60, 1: 184 agains; 16 weeks.
        work(x, "again 60[again 9[];];".repeat(3) + "again 60[week;];", 16, 0);
        // 1, and 2 in each of 60: 121, of which no week; then 1 and 60, 1 and 17.
        work(x, "again 60[again 0[week;];again 0[];];again 60[week;];again 60[week;];", 77, 0);
        // As the 200th an again is begun, but nothing in it.
        work(x, "again 2[again 48[week;];];again 2[again 48[week;];];week;again 1[week;];week;", 193, 0);
    }

    private static void twoHundredRefused() {
        Bench.sentence(5, "REFUSED ones, too)");
        PassagePapers x = Bench.opened(PLAIN + "voyage 20;");
        work(x, "again 60[land;land;land;];again 60[week;];", 18, 180);
        Bench.due("week", x.told(2), 18);
        work(x, "again 60[pay 0;pay 1;land;copy 0;];", 0, 199);
    }

    private static void twoHundredLeftOut() {
        Bench.sentence(5, "what would come behind is left out");
        PassagePapers x = Bench.opened(PLAIN);
        work(x, "again 60[again 60[again 60[again 60[again 60[again 60[];];];];];];land;", 0, 0);
        Bench.due("not landed", x.told(5), 0);
        work(x, "again 60[week;week;week;pay 0;];land;land;", 150, 49);
        Bench.due("not landed", x.told(5), 0);
        Bench.due("a work that can be undone", x.undo(), 1);
        Bench.due("week", x.told(2), 0);
    }

    private static void landNobody() {
        Bench.sentence(5, "land: .. (REFUSED, if nobody is aboard");
        PassagePapers x = Bench.opened(PLAIN);
        work(x, "land;land;", 1, 1);
        Bench.done(x, "place 0 0;");
        work(x, "land;", 0, 1);
        Bench.due("bound still", x.told(6), 1);
        work(Bench.opened("taker 0 1 1;voyage 0;"), "land;", 0, 1);
    }

    private static void landTooSoon() {
        Bench.sentence(5, "or fewer WEEKS than W have gone by)");
        work(Bench.opened("signer 1 0 0;voyage 0;"), "land;", 1, 0);
        work(Bench.opened("signer 1 0 0;voyage 1;"), "land;week;land;", 2, 1);
        work(Bench.opened("signer 1 0 0;voyage 20;"), "again 19[week;];land;week;land;", 21, 1);
        work(Bench.opened("signer 1 0 0;"), "again 7[week;];land;week;land;", 9, 1);
        work(Bench.opened("signer 1 0 0;voyage 2;"), "again 5[week;];land;", 6, 0);
    }

    private static void landAll() {
        Bench.sentence(5, "land: all who are aboard are ashore");
        PassagePapers x = Bench.opened("signer 1 0 0;".repeat(8) + "voyage 0;");
        work(x, "land;", 1, 0);
        Bench.due("aboard", x.told(4), 0);
        Bench.due("ashore", x.told(5), 8);
        for (int s = 0; s < 8; s++) {
            Bench.due("signer " + s, x.signer(s, 3), 1);
        }
    }

    private static void placeWhere() {
        Bench.sentence(5, "place: S, ashore, is BOUND to TAKER B");
        PassagePapers x = Bench.opened(PLAIN + "kinsman 1 52;");
        work(x, "place 0 0;", 0, 1);
        Bench.done(x, "land;place 0 0;pay 1;");
        work(x, "place 0 1;", 0, 1);
        work(x, "place 0 0;", 0, 1);
        work(x, "place 1 1;", 0, 1);
        Bench.due("to 0", x.signer(0, 4), 0);
        Bench.due("to nobody", x.signer(1, 4), -1);
    }

    private static void placeRoom() {
        Bench.sentence(5, "who has room still (those BOUND to B are fewer than C)");
        PassagePapers x = Bench.opened("signer 1 0 0;".repeat(8) + "taker 0 1 4;taker 0 1 1;voyage 0;kinsman 2 13;");
        work(x, "land;place 0 0;place 1 0;place 2 0;", 4, 0);
        work(x, "place 3 0;place 4 0;", 1, 1);
        Bench.due("four", x.taker(0, 3), 4);
        work(x, "place 4 1;place 5 1;", 1, 1);
        Bench.due("one", x.taker(1, 3), 1);
        work(x, "pay 2;place 5 0;place 6 0;", 2, 1);
        Bench.due("one is free: room again", x.taker(0, 3), 4);
        Bench.done(x, "again 52[week;];");
        work(x, "place 6 0;place 7 1;", 2, 0);
    }

    private static void placeService() {
        Bench.sentence(5, "his service is 0 WEEKS so far");
        PassagePapers x = Bench.opened(PLAIN);
        Bench.done(x, "week;week;land;week;place 0 0;");
        Bench.due("0", x.signer(0, 5), 0);
        Bench.due("owes all", x.owes(0), 260);
        Bench.done(x, "week;");
        Bench.due("1", x.signer(0, 5), 1);
        Bench.due("ashore he has none", x.signer(1, 5), 0);
    }

    private static void addBound() {
        Bench.sentence(5, "add: N months more for S, who is BOUND");
        PassagePapers x = Bench.opened(PLAIN + "kinsman 1 52;");
        work(x, "add 0 1;", 0, 1);
        Bench.done(x, "land;");
        work(x, "add 0 1;", 0, 1);
        Bench.done(x, "pay 1;");
        work(x, "add 1 1;", 0, 1);
        Bench.done(x, "place 0 0;");
        work(x, "add 0 1;add 0 24;", 2, 0);
        Bench.due("25", x.signer(0, 6), 25);
        Bench.due("0 for the other", x.signer(1, 6), 0);
    }

    private static void addMost() {
        Bench.sentence(5, "(99 at most in all; REFUSED, if there are 99)");
        PassagePapers x = Bench.opened(PLAIN);
        Bench.done(x, "land;place 0 0;place 1 0;again 4[add 0 24;add 1 24;];");
        Bench.due("96", x.signer(0, 6), 96);
        work(x, "add 0 2;", 1, 0);
        Bench.due("98", x.signer(0, 6), 98);
        work(x, "add 0 24;", 1, 0);
        Bench.due("99", x.signer(0, 6), 99);
        work(x, "add 0 1;add 0 24;", 0, 2);
        Bench.due("99", x.signer(0, 6), 99);
        work(x, "add 1 3;add 1 1;", 1, 1);
        Bench.due("96 and 3", x.signer(1, 6), 99);
        work(x, "strike 0;add 0 1;", 2, 0);
        Bench.due("struck, then 1", x.signer(0, 6), 1);
    }

    private static void strikeNone() {
        Bench.sentence(5, "strike: no months are added to S any more (REFUSED, if there are none)");
        PassagePapers x = Bench.opened(PLAIN);
        work(x, "strike 0;land;strike 0;place 0 0;strike 0;", 2, 3);
        work(x, "add 0 1;strike 0;strike 0;", 2, 1);
        Bench.due("0", x.signer(0, 6), 0);
        work(x, "add 0 24;add 0 24;strike 0;", 3, 0);
        Bench.due("0", x.signer(0, 6), 0);
    }

    private static void loseAndCopy() {
        Bench.sentence(5, "lose, copy: his paper is lost, is there again (REFUSED, if it is so already");
        PassagePapers x = Bench.opened(PLAIN + "kinsman 0 999;kinsman 1 999;");
        work(x, "copy 0;lose 0;lose 0;", 1, 2);
        Bench.due("lost", x.signer(0, 8), 1);
        work(x, "copy 0;copy 0;", 1, 1);
        Bench.due("there", x.signer(0, 8), 0);
        work(x, "land;lose 0;lose 0;place 1 0;lose 1;lose 1;copy 1;copy 1;", 5, 3);
        Bench.sentence(5, "lose, copy: .. or he is FREE)");
        work(x, "pay 0;pay 1;", 2, 0);
        work(x, "copy 0;lose 0;lose 1;copy 1;", 0, 4);
        Bench.due("lost still", x.signer(0, 8), 1);
        Bench.due("there still", x.signer(1, 8), 0);
    }

    private static void payWhere() {
        Bench.sentence(5, "pay: S, ashore or BOUND, is FREE");
        PassagePapers x = Bench.opened(PLAIN + "kinsman 0 999;kinsman 1 999;");
        work(x, "pay 0;", 0, 1);
        Bench.due("aboard", x.signer(0, 3), 0);
        work(x, "land;pay 0;", 2, 0);
        Bench.due("from ashore", x.signer(0, 3), 3);
        Bench.due("65 are gone", x.signer(0, 9), 934);
        work(x, "place 1 0;pay 1;", 2, 0);
        Bench.due("from being bound", x.signer(1, 3), 3);
        Bench.due("to nobody", x.signer(1, 4), -1);
        Bench.due("52 are gone", x.signer(1, 9), 947);
        work(x, "pay 0;pay 1;", 0, 2);
        Bench.due("no coins go twice", x.signer(0, 9), 934);
    }

    private static void payCoins() {
        Bench.sentence(5, "if his kinsman has as many coins as OWES by 4 (cut); so many are gone");
        PassagePapers x = Bench.opened("signer 1 0 0;signer 1 0 0;signer 1 0 0;kinsman 0 12;kinsman 1 13;kinsman 2 14;voyage 0;");
        work(x, "land;pay 0;pay 1;pay 2;", 3, 1);
        Bench.due("one too few", x.signer(0, 3), 1);
        Bench.due("they stay", x.signer(0, 9), 12);
        Bench.due("just as many", x.signer(1, 9), 0);
        Bench.due("one more", x.signer(2, 9), 1);
    }

    private static void payCut() {
        Bench.sentence(5, "OWES by 4 (cut)");
        PassagePapers x = Bench.opened("signer 1 0 0;".repeat(4) + "kinsman 3 1;voyage 0;taker 0 1 4;");
        Bench.done(x, "land;");
        Bench.law(x, 0, "4");
        work(x, "pay 0;", 0, 1);
        Bench.law(x, 0, "3");
        work(x, "pay 0;", 1, 0);
        Bench.due("for nothing", x.signer(0, 9), 0);
        Bench.law(x, 0, "0");
        work(x, "pay 1;", 1, 0);
        Bench.law(x, 0, "9");
        work(x, "place 3 0;week;week;pay 3;", 4, 0);
        Bench.due("7 by 4 is 1", x.signer(3, 9), 0);
        Bench.due("free", x.signer(3, 3), 3);
    }

    private static void week900() {
        Bench.sentence(5, "week (REFUSED on WEEK 900)");
        PassagePapers x = Bench.opened("signer 1 0 0;stores 0;");
        for (int i = 0; i < 4; i++) {
            work(x, "again 3[again 60[week;];];", 180, 0);
        }
        work(x, "again 3[again 59[week;];];week;week;", 179, 0);
        Bench.due("899", x.told(2), 899);
        work(x, "week;", 1, 0);
        Bench.due("900", x.told(2), 900);
        work(x, "week;week;", 0, 2);
        Bench.due("900 still", x.told(2), 900);
        Bench.due("hungry no more", x.signer(0, 7), 900);
        work(x, "land;lose 0;", 2, 0);
    }

    private static void weekEats() {
        Bench.sentence(5, "those aboard, by number, eat one of the STORES each; for whom there is none, he was hungry a WEEK more");
        PassagePapers x = Bench.opened("signer 1 0 0;".repeat(8) + "stores 13;");
        Bench.done(x, "week;");
        Bench.due("13 less 8", x.told(3), 5);
        Bench.done(x, "week;");
        Bench.due("none left", x.told(3), 0);
        for (int s = 0; s < 8; s++) {
            Bench.due("signer " + s, x.signer(s, 7), s < 5 ? 0 : 1);
        }
        Bench.done(x, "week;");
        for (int s = 0; s < 8; s++) {
            Bench.due("signer " + s, x.signer(s, 7), s < 5 ? 1 : 2);
        }
    }

    private static void weekStoresGone() {
        Bench.sentence(5, "those aboard .. eat (nobody else does)");
        PassagePapers x = Bench.opened(PLAIN + "stores 2;");
        Bench.done(x, "week;week;land;week;place 0 0;week;");
        Bench.due("no stores", x.told(3), 0);
        Bench.due("was hungry aboard alone", x.signer(0, 7), 1);
        PassagePapers y = Bench.opened(PLAIN + "stores 2;");
        Bench.done(y, "land;week;week;");
        Bench.due("stores stay", y.told(3), 2);
        Bench.due("nobody is hungry", y.signer(0, 7) + y.signer(1, 7), 0);
    }

    private static void weekService() {
        Bench.sentence(5, "The service of those who are BOUND is one WEEK more");
        PassagePapers x = Bench.opened(PLAIN + "kinsman 0 999;");
        Bench.done(x, "week;land;week;place 0 0;week;week;");
        Bench.due("2", x.signer(0, 5), 2);
        Bench.due("ashore 0", x.signer(1, 5), 0);
        Bench.done(x, "pay 0;week;week;");
        Bench.due("free: no more", x.signer(0, 5), 2);
    }

    private static void weekThenFree() {
        Bench.sentence(5, "Then the WEEK is one more; then each who is BOUND and OWES nothing is FREE");
        PassagePapers x = Bench.opened("signer 1 0 0;signer 1 0 0;taker 0 1 2;voyage 0;");
        Bench.done(x, "land;place 0 0;again 51[week;];");
        Bench.due("51 of 52", x.signer(0, 3), 2);
        Bench.done(x, "week;");
        Bench.due("52 of 52", x.signer(0, 3), 3);
        Bench.due("to nobody", x.signer(0, 4), -1);
        Bench.due("ashore nobody gets free by weeks", x.signer(1, 3), 1);
        // What is asked is asked in the new week.
        PassagePapers y = Bench.opened("signer 1 0 0;taker 0 1 2;voyage 0;");
        Bench.law(y, 0, "least[999,week*999]");
        Bench.done(y, "land;place 0 0;");
        Bench.due("nothing is owed in week 0", y.owes(0), 0);
        Bench.done(y, "week;");
        Bench.due("in week 1 it is", y.signer(0, 3), 2);
        PassagePapers z = Bench.opened("signer 1 0 0;taker 0 1 2;voyage 0;");
        Bench.law(z, 0, "(1-week)*999");
        Bench.done(z, "land;place 0 0;");
        Bench.due("much is owed in week 0", z.owes(0), 999);
        Bench.done(z, "week;");
        Bench.due("in week 1 nothing is", z.signer(0, 3), 3);
    }
}
