/** Promises 4 and 12 to 15, with all that the document says of a LAW: a sentence, a test. */
public final class LawEdgesTest {
    private static final String THREE = "signer 5 1 1;signer 4 2 1;signer 1 5 0;taker 1 20 2;taker 0 1 1;voyage 0;";

    public static void main(String[] args) {
        answersOne();
        faultKeepsLaw();
        twoLaws();
        withoutText();
        nothingMore();
        numbers();
        notBelowZero();
        notAbove999();
        wraps();
        cuts();
        byZero();
        order();
        leastAndMost();
        sixOpen();
        seventhOpen();
        openAtOneTime();
        lawFaults();
        lawEndsTooEarly();
        lawBlanks();
        longLaws();
        valuesOfAPaper();
        hungryValue();
        kinValue();
        lostValue();
        placedValue();
        weekValue();
        asksOfAll();
        asksRefused();
        owesOfFree();
        owesNotBelowZero();
        owesRefused();
        wouldRanges();
        wouldRefused();
        wouldPlacedAndKin();
        wouldByLawZero();
        heldEdge();
        heldOnlyBound();
        heldBits();
        Bench.end("LawEdgesTest");
    }

    private static PassagePapers withLaw(String text) {
        PassagePapers x = new PassagePapers();
        Bench.due("law " + text, Bench.law(x, 0, text), 1);
        return x;
    }

    private static void value(String text, int want) {
        Bench.due("value of " + text, withLaw(text).would(1, 0, 0, 0, 0, 0), want);
    }

    private static void fault(String text, int answer, int place) {
        for (int which = 0; which <= 1; which++) {
            PassagePapers x = Bench.opened(THREE);
            Bench.law(x, 0, "77");
            Bench.law(x, 1, "88");
            Bench.due("law " + text, Bench.law(x, which, text), answer);
            Bench.due("place in " + text, x.fault(), place);
            Bench.due("law 0 stays: " + text, x.asks(0, 0), 77);
            Bench.due("law 1 stays: " + text, x.asks(0, 1), 88);
        }
    }

    private static void answersOne() {
        Bench.sentence(4, "Likewise a LAW (0 the court's, 1 the taker's; n to 150): 1.");
        PassagePapers x = new PassagePapers();
        Bench.due("law 0", Bench.law(x, 0, "0"), 1);
        Bench.due("law 1", Bench.law(x, 1, "999"), 1);
        Bench.due("law 0 again", Bench.law(x, 0, "years"), 1);
    }

    private static void faultKeepsLaw() {
        Bench.sentence(4, "Likewise .. or the FAULT less 10 (all stays)");
        fault("1+", -9, 2);
        fault("1000", -8, 0);
        fault("(((((((1", -7, 6);
        PassagePapers x = Bench.opened(THREE);
        Bench.book(x, "0 7;");
        Bench.done(x, "week;");
        x.image();
        String before = Bench.picture(x);
        Bench.due("fault", Bench.law(x, 0, "years*3 4"), -9);
        Bench.due("all stays", Bench.picture(x), before);
        Bench.due("works", x.count(2), 1);
        Bench.due("images", x.count(0), 1);
    }

    private static void twoLaws() {
        Bench.sentence(4, "LAW 0 is the court's, by which all is done; LAW 1 the taker's, which is only asked");
        PassagePapers x = Bench.opened(THREE + "kinsman 0 1;kinsman 1 2;");
        Bench.law(x, 1, "0");
        Bench.due("law 0 is as before", x.asks(0, 0), 260);
        Bench.done(x, "land;place 0 0;week;");
        Bench.due("not free by law 1", x.signer(0, 3), 2);
        Bench.due("nor is the fare less", x.fare(0), 64);
        Bench.due("nor what is given", x.gives(0, 0), 99);
        Bench.due("nor what is paid", Bench.work(x, "pay 0;"), 0);
        Bench.law(x, 0, "7");
        Bench.law(x, 1, "999");
        Bench.due("by law 0 he owes", x.owes(0), 6);
        Bench.due("and pays", Bench.work(x, "pay 0;"), 1);
        Bench.due("laws may change between works", x.asks(0, 1), 999);
    }

    private static void withoutText() {
        Bench.sentence(4, "without: years * 52 + added * 4");
        PassagePapers x = Bench.opened("signer 9 0 0;taker 0 1 1;voyage 0;");
        Bench.due("9 years", x.asks(0, 0), 468);
        Bench.due("law 1 likewise", x.asks(0, 1), 468);
        Bench.due("9 years and 99 months", x.would(9, 99, 5, 99, 1, 900), 864);
        Bench.done(x, "land;place 0 0;add 0 24;");
        Bench.due("24 months", x.asks(0, 0), 564);
        Bench.due("law 1 likewise", x.asks(0, 1), 564);
    }

    private static void nothingMore() {
        Bench.sentence(4, "E, at the end nothing more");
        fault("1 1", -9, 2);
        fault("1)", -9, 1);
        fault("1;", -9, 1);
        fault("1]", -9, 1);
        fault("1,1", -9, 1);
        fault("years years", -9, 6);
        fault("1(2)", -9, 1);
        fault("(1)(2)", -9, 3);
        fault("1" + (char) 0, -9, 1);
        value("1   ", 1);
    }

    private static void numbers() {
        Bench.sentence(4, "N (0 to 999)");
        value("0", 0);
        value("999", 999);
        value("0000000000000000000999", 999);
        fault("1000", -8, 0);
        fault("1+1000", -8, 2);
        fault("4294967297", -8, 0);
        fault("9".repeat(150), -8, 0);
        // Where a number can't stand it is not looked at.
        fault("1 1000", -9, 2);
    }

    private static void notBelowZero() {
        Bench.sentence(4, "what comes out, 0 at least");
        value("1-1", 0);
        value("1-2", 0);
        value("0-999", 0);
        value("2-1", 1);
    }

    private static void notAbove999() {
        Bench.sentence(4, "what comes out, .. 999 at most");
        value("998", 998);
        value("998+1", 999);
        value("999+1", 999);
        value("999*999", 999);
        // Only what comes out is bounded, not what is reckoned on the way.
        value("999+999-999", 999);
        value("999*2-999-1", 998);
        value("0-5+8", 3);
    }

    private static void wraps() {
        Bench.sentence(4, "Values are whole numbers of 32 bits that wrap");
        // 64 to the fifth, times 2, is 2 to the 31: it wraps to the least number there is.
        value("64*64*64*64*64*2", 0);
        value("64*64*64*64*64*2-1", 999);
        value("64*64*64*64*64*4", 0);
        value("64*64*64*64*64*4+5", 5);
        value("(64*64*64*64*64*2-1)+1", 0);
        value("0-64*64*64*64*64*2", 0);
        value("0-64*64*64*64*64*2-1", 999);
        value("999*999*999*999", 0);
        value("0-999*999*999*999", 999);
    }

    private static void cuts() {
        Bench.sentence(4, "/ cuts");
        value("7/2", 3);
        value("1/2", 0);
        value("(0-7)/2+10", 7);
        value("7/(0-2)+10", 7);
        value("(0-7)/(0-2)", 3);
        value("(0-1)/2+1", 1);
        value("100/7/2", 7);
        // The least number by -1 has no like above 0: it wraps to itself.
        value("(64*64*64*64*64*2)/(0-1)", 0);
        value("(64*64*64*64*64*2)/(0-1)-1", 999);
    }

    private static void byZero() {
        Bench.sentence(4, "by 0 it is 0");
        value("5/0", 0);
        value("5/0+3", 3);
        value("0/0+1", 1);
        value("5/(1-1)*9+2", 2);
        value("5/lost+4", 4);
        value("64*64*64*64*64*2/0+6", 6);
        value("6/0/0+7", 7);
    }

    private static void order() {
        Bench.sentence(4, "E: T { + or - T }. T: U { * or / U }");
        value("10-3-2", 5);
        value("10-(3-2)", 9);
        value("2+3*4", 14);
        value("2*3+4", 10);
        value("8/4*2", 4);
        value("8/(4*2)", 1);
        value("20-2*3-12/4", 11);
    }

    private static void leastAndMost() {
        Bench.sentence(4, "\"least\" \"[\" E \",\" E \"]\", \"most\" \"[\" E \",\" E \"]\"");
        value("least[3,4]", 3);
        value("least[4,3]", 3);
        value("most[3,4]", 4);
        value("most[4,3]", 4);
        value("least[5,5]+most[6,6]", 11);
        value("most[0-4,0-3]+9", 6);
        value("least[0-4,0-3]+9", 5);
        value("least[1+2*3,9-1]*2", 14);
        value("2*most[1,2]-1", 3);
        value("most[64*64*64*64*64*2,3]", 3);
    }

    private static void sixOpen() {
        Bench.sentence(4, "a 7th of ( least most again that is open at one time (six may be)");
        value("((((((6))))))", 6);
        value("least[least[least[least[least[least[6,7],7],7],7],7],7]", 6);
        value("most[1,most[1,most[1,most[1,most[1,most[1,6]]]]]]", 6);
        value("(least[(most[(least[3,4]),5]),6])", 5);
    }

    private static void seventhOpen() {
        Bench.sentence(4, "3 .. a 7th of ( least most again that is open at one time");
        fault("(((((((6)))))))", -7, 6);
        fault("((((((least[6,7]))))))", -7, 6);
        fault("((((((most[6,7]))))))", -7, 6);
        fault("((((((  most", -7, 8);
        fault("least[least[least[least[least[least[least[6,7]", -7, 36);
        fault("most[1,most[1,most[1,most[1,most[1,most[1,most[1,6", -7, 42);
        fault("most[1,most[1,most[1,most[1,most[1,most[1,(", -7, 42);
        fault("((((((1+1*(", -7, 10);
        fault("(((((((((((((((((((((((((((((((((((((((((((((((((((((", -7, 6);
        // Of one place the least: a word that is none can't stand there.
        fault("((((((mosts", -9, 6);
        fault("(((((([", -9, 6);
    }

    private static void openAtOneTime() {
        Bench.sentence(4, "that is open at one time (those that are closed are not)");
        value("((((((1))))))+((((((2))))))*((((((3))))))", 7);
        value("least[((((( 5 ))))),((((( 4 )))))]", 4);
        value("(1)+(1)+(1)+(1)+(1)+(1)+(1)+(1)", 8);
        fault("least[((((( 5 ))))),(((((( 4", -7, 25);
        fault("((((((1))))))+(((((((2", -7, 20);
    }

    private static void lawFaults() {
        Bench.sentence(4, "1 what can't stand there");
        fault("-1", -9, 0);
        fault("+1", -9, 0);
        fault("1*/2", -9, 2);
        fault("1--2", -9, 2);
        fault("kins", -9, 0);
        fault("year", -9, 0);
        fault("least(1,2)", -9, 5);
        fault("least 5", -9, 6);
        fault("least[5]", -9, 7);
        fault("least[5,6)", -9, 9);
        fault("most[5,6,7]", -9, 8);
        fault("most[,6]", -9, 5);
        fault("most[5,]", -9, 7);
        fault("(1]", -9, 2);
        fault("()", -9, 1);
        fault("[1]", -9, 0);
        fault("5years", -9, 1);
        fault("years5", -9, 5);
        fault("again", -9, 0);
        fault("1%2", -9, 1);
        fault("Years", -9, 0);
        fault("1 +" + (char) 9 + "1", -9, 3);
    }

    private static void lawEndsTooEarly() {
        Bench.sentence(4, "1 .. (at the length, if the text ends too early)");
        fault(" ", -9, 1);
        fault("lost+", -9, 5);
        fault("lost+  ", -9, 7);
        fault("lost*", -9, 5);
        fault("(1", -9, 2);
        fault("(", -9, 1);
        fault("least", -9, 5);
        fault("least[", -9, 6);
        fault("least[1", -9, 7);
        fault("least[1,", -9, 8);
        fault("least[1,2", -9, 9);
        fault("((((((", -9, 6);
        PassagePapers x = new PassagePapers();
        Bench.due("no bytes", x.law(0, 0), -9);
        Bench.due("at the length", x.fault(), 0);
        Bench.due("plain still", x.would(1, 0, 0, 0, 0, 0), 52);
    }

    private static void lawBlanks() {
        Bench.sentence(4, "blanks (32) may stand ahead of all these, and at the end");
        value("  most  [  3  ,  4  ]  *  (  2  )  -  1  ", 7);
        value("   9", 9);
        value("9   ", 9);
        fault("9 9", -9, 2);
        fault("ye ars", -9, 0);
        fault("least [ 1 , 2  ", -9, 15);
    }

    private static void longLaws() {
        Bench.sentence(4, "A LAW is a text of up to 150 bytes (all of it counts)");
        value("1" + "+1".repeat(74), 75);
        value("9" + "*1".repeat(74), 9);
        value("99" + "-1".repeat(74), 25);
        value("1+1*least[9,".repeat(6) + "1+1*2" + "]".repeat(6), 9);
        // A shorter law behind a longer one: nothing of that is left.
        PassagePapers x = withLaw("1" + "+1".repeat(74));
        Bench.law(x, 0, "3");
        Bench.due("the shorter one", x.would(1, 0, 0, 0, 0, 0), 3);
    }

    private static void valuesOfAPaper() {
        Bench.sentence(4, "\"years\" (Y), \"added\" (months), \"trade\" (T)");
        PassagePapers x = Bench.opened("signer 9 5 0;signer 1 0 0;taker 0 1 1;voyage 0;");
        Bench.law(x, 0, "years*100+trade*10+added");
        Bench.due("9 and 5", x.asks(0, 0), 950);
        Bench.due("1 and 0", x.asks(1, 0), 100);
        Bench.done(x, "land;place 1 0;add 1 7;");
        Bench.due("7 months", x.asks(1, 0), 107);
        Bench.done(x, "strike 1;");
        Bench.due("struck", x.asks(1, 0), 100);
    }

    private static void hungryValue() {
        Bench.sentence(4, "\"hungry\" (WEEKS he was)");
        PassagePapers x = Bench.opened("signer 1 0 0;signer 1 0 0;stores 3;voyage 0;");
        Bench.law(x, 0, "hungry");
        Bench.law(x, 1, "hungry*10+1");
        Bench.done(x, "week;");
        Bench.due("not yet", x.asks(0, 1), 1);
        Bench.done(x, "week;");
        Bench.due("0 ate", x.asks(0, 0), 0);
        Bench.due("1 did not", x.asks(1, 0), 1);
        Bench.done(x, "again 60[week;];again 50[week;];");
        Bench.due("110 weeks", x.asks(0, 0), 110);
        Bench.due("111 weeks", x.asks(1, 0), 111);
        Bench.due("by law 1", x.asks(1, 1), 999);
    }

    private static void kinValue() {
        Bench.sentence(4, "\"kin\" (how many KIN he has in the REGISTER, he not counted)");
        PassagePapers x = Bench.opened("signer 1 0 4;".repeat(8));
        Bench.law(x, 0, "kin");
        Bench.due("7 others", x.asks(0, 0), 7);
        Bench.due("7 others", x.asks(7, 0), 7);
        PassagePapers y = Bench.opened("signer 1 0 0;signer 1 0 0;signer 1 0 3;signer 1 0 2;signer 1 0 2;voyage 0;");
        Bench.law(y, 0, "kin");
        Bench.due("K 0", y.asks(0, 0), 0);
        Bench.due("alone", y.asks(2, 0), 0);
        Bench.due("one", y.asks(3, 0), 1);
        Bench.done(y, "land;pay 3;");
        Bench.due("he is free: still in the register", y.asks(4, 0), 1);
    }

    private static void lostValue() {
        Bench.sentence(4, "\"lost\" (1, if his paper is lost, else 0)");
        PassagePapers x = Bench.opened(THREE);
        Bench.law(x, 0, "lost");
        Bench.law(x, 1, "lost*50");
        Bench.due("there", x.asks(0, 0), 0);
        Bench.done(x, "lose 0;");
        Bench.due("lost", x.asks(0, 0), 1);
        Bench.due("lost", x.asks(0, 1), 50);
        Bench.due("another's", x.asks(1, 0), 0);
        Bench.done(x, "copy 0;");
        Bench.due("there again", x.asks(0, 0), 0);
    }

    private static void placedValue() {
        Bench.sentence(4, "\"placed\" (the WEEK in which he was placed; this one, if he was not)");
        PassagePapers x = Bench.opened(THREE);
        Bench.law(x, 1, "placed");
        Bench.done(x, "land;place 0 0;week;week;week;");
        Bench.due("in week 0", x.asks(0, 1), 0);
        Bench.due("not yet: this one", x.asks(1, 1), 3);
        Bench.done(x, "place 1 0;week;");
        Bench.due("in week 3", x.asks(1, 1), 3);
        Bench.due("not yet: this one", x.asks(2, 1), 4);
        Bench.law(x, 0, "0");
        Bench.done(x, "pay 2;week;");
        Bench.due("free, was placed", x.signer(1, 3), 3);
        Bench.due("in week 3 still", x.asks(1, 1), 3);
        Bench.due("free, was never placed: this one", x.asks(2, 1), 5);
        Bench.undo(x, 2);
        Bench.due("undone: not placed", x.asks(1, 1), 3);
        Bench.done(x, "week;");
        Bench.due("so this one", x.asks(1, 1), 4);
    }

    private static void weekValue() {
        Bench.sentence(4, "\"week\" (now)");
        PassagePapers x = Bench.opened(THREE);
        Bench.law(x, 0, "week");
        Bench.due("0", x.asks(0, 0), 0);
        Bench.done(x, "week;");
        Bench.due("1", x.asks(0, 0), 1);
        for (int i = 0; i < 5; i++) {
            Bench.work(x, "again 3[again 60[week;];];");
        }
        Bench.due("900", x.asks(0, 0), 900);
    }

    private static void asksOfAll() {
        Bench.sentence(12, "ASKS of a SIGNER's paper now by a LAW (0, 1).");
        PassagePapers x = Bench.opened(THREE + "kinsman 2 999;");
        Bench.law(x, 1, "1");
        Bench.due("aboard", x.asks(0, 0), 260);
        Bench.done(x, "land;place 0 0;pay 2;week;");
        Bench.due("bound: service is not taken off", x.asks(0, 0), 260);
        Bench.due("ashore", x.asks(1, 0), 208);
        Bench.due("free", x.asks(2, 0), 52);
        Bench.due("free, by law 1", x.asks(2, 1), 1);
    }

    private static void asksRefused() {
        Bench.sentence(12, "IllegalArgumentException: another which");
        PassagePapers x = Bench.opened(THREE);
        for (int which : new int[] {-1, 2, Integer.MIN_VALUE, Integer.MAX_VALUE}) {
            Bench.illegal("which " + which, () -> x.asks(0, which));
        }
        Bench.sentence(12, "NoSuchElementException (ahead of others)");
        for (int s : new int[] {-1, 3, 8, Integer.MIN_VALUE, Integer.MAX_VALUE}) {
            Bench.noSuch("signer " + s, () -> x.asks(s, 0));
            Bench.noSuch("signer " + s + ", another which", () -> x.asks(s, 2));
        }
        Bench.due("illegal", x.status(1), 4);
        Bench.due("no such", x.status(0), 10);
    }

    private static void owesOfFree() {
        Bench.sentence(13, "OWES (0: FREE).");
        PassagePapers x = Bench.opened(THREE + "kinsman 2 13;");
        Bench.due("aboard", x.owes(2), 52);
        Bench.done(x, "land;");
        Bench.due("ashore", x.owes(2), 52);
        Bench.done(x, "pay 2;");
        Bench.due("free, though his paper asks", x.owes(2), 0);
        Bench.due("it does", x.asks(2, 0), 52);
    }

    private static void owesNotBelowZero() {
        Bench.sentence(13, "ASKS by LAW 0 less his service, 0 at least");
        PassagePapers x = Bench.opened(THREE);
        Bench.done(x, "land;place 0 0;again 5[week;];");
        Bench.law(x, 0, "6");
        Bench.due("6 less 5", x.owes(0), 1);
        Bench.law(x, 0, "5");
        Bench.due("5 less 5", x.owes(0), 0);
        Bench.law(x, 0, "4");
        Bench.due("4 less 5", x.owes(0), 0);
        Bench.due("bound still", x.signer(0, 3), 2);
        Bench.law(x, 0, "999*2");
        Bench.due("999 less 5", x.owes(0), 994);
    }

    private static void owesRefused() {
        Bench.sentence(13, "throws NoSuchElementException");
        PassagePapers x = Bench.opened(THREE);
        Bench.fine("signer 2", () -> x.owes(2));
        for (int s : new int[] {-1, 3, 8, Integer.MIN_VALUE, Integer.MAX_VALUE}) {
            Bench.noSuch("signer " + s, () -> x.owes(s));
        }
    }

    private static final int[][] WOULD = {{1, 9}, {0, 99}, {0, 5}, {0, 99}, {0, 1}, {0, 900}};
    private static final String[] WOULD_NAMES = {"years", "added", "trade", "hungry", "lost", "week"};

    private static int would(PassagePapers x, int[] a) {
        return x.would(a[0], a[1], a[2], a[3], a[4], a[5]);
    }

    private static int[] wouldLeast() {
        return new int[] {1, 0, 0, 0, 0, 0};
    }

    private static void wouldRanges() {
        Bench.sentence(14, "years (1 to 9), added (0 to 99), trade (0 to 5), hungry (0 to 99), lost (0, 1), week (0 to 900");
        for (int i = 0; i < WOULD.length; i++) {
            PassagePapers x = withLaw(WOULD_NAMES[i]);
            for (int edge : WOULD[i]) {
                int[] a = wouldLeast();
                a[i] = edge;
                Bench.due(WOULD_NAMES[i] + " " + edge, would(x, a), edge);
            }
        }
        Bench.due("the most of all", withLaw("years+added+trade+hungry+lost").would(9, 99, 5, 99, 1, 900), 213);
    }

    private static void wouldRefused() {
        Bench.sentence(14, "IllegalArgumentException (beyond these)");
        PassagePapers x = new PassagePapers();
        int refused = 0;
        for (int i = 0; i < WOULD.length; i++) {
            for (int bad : new int[] {WOULD[i][0] - 1, WOULD[i][1] + 1, Integer.MIN_VALUE, Integer.MAX_VALUE}) {
                int[] a = wouldLeast();
                a[i] = bad;
                Bench.illegal(WOULD_NAMES[i] + " " + bad, () -> would(x, a));
                refused++;
            }
        }
        Bench.illegal("all of them, one call", () -> x.would(0, -1, -1, -1, -1, -1));
        Bench.due("counted", x.status(1), refused + 1);
    }

    private static void wouldPlacedAndKin() {
        Bench.sentence(14, "placed is 0, kin is 0");
        PassagePapers x = Bench.opened(THREE);
        Bench.done(x, "week;land;week;place 0 0;");
        Bench.law(x, 0, "placed*10+kin+5");
        Bench.due("his own", x.asks(0, 0), 26);
        Bench.due("would", x.would(5, 0, 1, 0, 0, 2), 5);
        Bench.due("would, in another week", x.would(5, 0, 1, 0, 0, 900), 5);
    }

    private static void wouldByLawZero() {
        Bench.sentence(14, "ASKS by LAW 0 for such");
        PassagePapers x = Bench.opened(THREE);
        Bench.law(x, 1, "3");
        Bench.due("law 0", x.would(1, 0, 0, 0, 0, 0), 52);
        Bench.law(x, 0, "week-hungry");
        Bench.due("0 at least", x.would(1, 0, 0, 9, 0, 8), 0);
        Bench.law(x, 0, "week*2");
        Bench.due("999 at most", x.would(1, 0, 0, 0, 0, 900), 999);
        Bench.due("nothing stays changed", x.asks(0, 0), 0);
    }

    private static void heldEdge() {
        Bench.sentence(15, "service no less than ASKS by LAW 1");
        PassagePapers x = Bench.opened(THREE);
        Bench.done(x, "land;place 0 0;again 5[week;];");
        Bench.law(x, 1, "6");
        Bench.due("6 asked, 5 served", x.held(), 0);
        Bench.law(x, 1, "5");
        Bench.due("5 asked, 5 served", x.held(), 1);
        Bench.law(x, 1, "4");
        Bench.due("4 asked, 5 served", x.held(), 1);
        Bench.law(x, 1, "0");
        Bench.due("0 asked", x.held(), 1);
    }

    private static void heldOnlyBound() {
        Bench.sentence(15, "SIGNERS who are BOUND");
        PassagePapers x = Bench.opened(THREE + "kinsman 2 99;");
        Bench.law(x, 1, "0");
        Bench.due("aboard", x.held(), 0);
        Bench.done(x, "land;");
        Bench.due("ashore", x.held(), 0);
        Bench.done(x, "place 2 1;");
        Bench.due("bound, 0 served", x.held(), 4);
        Bench.done(x, "pay 2;");
        Bench.due("free", x.held(), 0);
        Bench.due("no signers", new PassagePapers().held(), 0);
    }

    private static void heldBits() {
        Bench.sentence(15, "as bits");
        PassagePapers x = Bench.opened("signer 1 0 0;".repeat(8) + "taker 0 1 4;taker 0 1 4;voyage 0;");
        Bench.law(x, 1, "0");
        Bench.done(x, "land;place 7 0;place 0 0;place 3 1;");
        Bench.due("0, 3, 7", x.held(), 1 + 8 + 128);
        Bench.done(x, "place 1 0;place 2 0;place 4 1;place 5 1;place 6 1;");
        Bench.due("all", x.held(), 255);
    }
}
