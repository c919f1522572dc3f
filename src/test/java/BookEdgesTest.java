/** Promises 6, 29 and 30: the BOOK, TERMS and ASK: a sentence, a test. */
public final class BookEdgesTest {
    private static final String TWO = "signer 5 1 1;signer 4 2 1;taker 1 20 2;voyage 0;";

    public static void main(String[] args) {
        lines();
        noLines();
        bookStays();
        lineTooMany();
        weekOfService();
        weeksMore();
        weekTwice();
        ofOneTheLeast();
        bookFaults();
        bookBlanks();
        bookEndsTooEarly();
        termsWithoutBook();
        termsRange();
        termsZeroAtLeast();
        termsAllLines();
        termsAllElse();
        termsByLawZero();
        termsNone();
        termsLeastGreatest();
        termsOfFree();
        termsRefused();
        askFirst();
        askInNoLine();
        askNoTerms();
        askLeft();
        askAlike();
        askRefused();
        Bench.end("BookEdgesTest");
    }

    private static void fault(String text, int answer, int place) {
        PassagePapers x = Bench.opened(TWO);
        Bench.book(x, "1 103;3 101;");
        Bench.due(text, Bench.book(x, text), answer);
        Bench.due("place in " + text, x.fault(), place);
        Bench.due("as many lines: " + text, x.told(8), 2);
        Bench.due("the same lines: " + text, x.terms(0, 0), 2);
        Bench.due("the same lines: " + text, x.terms(0, 2), 104);
    }

    private static void book(String text, int lines) {
        PassagePapers x = Bench.opened(TWO);
        Bench.due(text, Bench.book(x, text), lines);
        Bench.due("no fault in " + text, x.fault(), -1);
        Bench.due("told: " + text, x.told(8), lines);
    }

    private static void lines() {
        Bench.sentence(6, "Likewise the BOOK (n to 100): how many lines.");
        book("0 0;", 1);
        book("0 0;1 0;2 0;", 3);
        book(" 0 0 ;  499   999  ;  ", 2);
    }

    private static void noLines() {
        Bench.sentence(6, "how many lines (none)");
        book("", 0);
        book("    ", 0);
        PassagePapers x = Bench.opened(TWO);
        Bench.book(x, "0 104;");
        Bench.due("two terms", x.terms(0, 0), 2);
        Bench.due("an empty one in its place", Bench.book(x, " "), 0);
        Bench.due("all terms", x.terms(0, 0), 225);
    }

    private static void bookStays() {
        Bench.sentence(6, "Likewise .. or the FAULT less 10 (all stays)");
        fault("7", -9, 1);
        fault("1 103;3 1000;", -8, 8);
        fault("0 0;1 0;2 0;3 0;4 0;5 0;6 0;7 0;8 0;", -7, 32);
        PassagePapers x = Bench.opened(TWO);
        Bench.law(x, 0, "7");
        Bench.done(x, "week;");
        x.image();
        String before = Bench.picture(x);
        Bench.due("fault", Bench.book(x, "0 0;x"), -9);
        Bench.due("the rest", Bench.picture(x), before);
        Bench.due("works", x.count(2), 1);
        Bench.due("images", x.count(0), 1);
    }

    private static void lineTooMany() {
        Bench.sentence(6, "8 lines at most; 3 .. a line too many (at its W)");
        book("0 0;1 0;2 0;3 0;4 0;5 0;6 0;7 0;", 8);
        book("0 0;1 0;2 0;3 0;4 0;5 0;6 0;7 0;   ", 8);
        fault("0 0;1 0;2 0;3 0;4 0;5 0;6 0;7 0;8 0;", -7, 32);
        fault("0 0;1 0;2 0;3 0;4 0;5 0;6 0;7 0;  8", -7, 34);
        fault("0 0;1 0;2 0;3 0;4 0;5 0;6 0;7 0;8 1000;", -7, 32);
        fault("0 0;1 0;2 0;3 0;4 0;5 0;6 0;7 0;499;", -7, 32);
    }

    private static void weekOfService() {
        Bench.sentence(6, "in WEEK W of service (0 to 499)");
        book("0 1;", 1);
        book("499 1;", 1);
        fault("500 1;", -8, 0);
        fault("0 1; 500 1;", -8, 5);
        fault("4294967296 1;", -8, 0);
    }

    private static void weeksMore() {
        Bench.sentence(6, "N WEEKS more were asked (0 to 999)");
        book("1 0;", 1);
        book("1 999;", 1);
        fault("1 1000;", -8, 2);
        fault("1 4294967296;", -8, 2);
    }

    private static void weekTwice() {
        Bench.sentence(6, "no W twice; 2 a number that is none such (a W twice)");
        fault("0 1;0 1;", -8, 4);
        fault("0 1;1 1;0 2;", -8, 8);
        fault("499 1;  0499 1;", -8, 8);
        fault("0 0;1 0;2 0;3 0;4 0;5 0;6 0;6 0;", -8, 28);
        book("0 7;1 7;", 2);
        // Of the book ahead of this one a W may come again.
        PassagePapers x = Bench.opened(TWO);
        Bench.book(x, "5 1;6 1;");
        Bench.due("again", Bench.book(x, "6 1;5 1;7 1;"), 3);
        Bench.due("behind a fault, too", Bench.book(x, "8 1;9 1;x"), -9);
        Bench.due("again", Bench.book(x, "8 1;9 1;"), 2);
    }

    private static void ofOneTheLeast() {
        Bench.sentence(6, "of one the least");
        fault("0 0;1 0;2 0;3 0;4 0;5 0;6 0;7 0;7 0;", -8, 32);
        fault("0 0;1 0;2 0;3 0;4 0;5 0;6 0;7 0;500 0;", -8, 32);
        fault("0 0;1 0;2 0;3 0;4 0;5 0;6 0;7 0;x", -9, 32);
        fault("0 0;1 0;2 0;3 0;4 0;5 0;6 0;7 0;;", -9, 32);
    }

    private static void bookFaults() {
        Bench.sentence(6, "1 what can't stand there");
        fault("0;", -9, 1);
        fault(";", -9, 0);
        fault("0 1 2;", -9, 4);
        fault("0 1,", -9, 3);
        fault("week 1;", -9, 0);
        fault("0 x;", -9, 2);
        fault("-1 0;", -9, 0);
        fault("0 1;;", -9, 4);
    }

    private static void bookBlanks() {
        Bench.sentence(6, "blanks (32) may stand ahead of all these, and at the end");
        book("   0   104   ;   1   103   ;   ", 2);
        fault("0 1 04;", -9, 4);
        fault("0104;", -9, 4);
        fault("0\t104;", -9, 1);
    }

    private static void bookEndsTooEarly() {
        Bench.sentence(6, "1 .. (at the length, if the text ends too early)");
        fault("0", -9, 1);
        fault("0 ", -9, 2);
        fault("0 1", -9, 3);
        fault("0 1;1 1  ", -9, 9);
    }

    /** How many terms, the first, the least and the greatest asks. */
    private static void terms(PassagePapers x, int signer, int... due) {
        for (int what = 0; what <= 3; what++) {
            Bench.due("terms of " + signer + ", what " + what, x.terms(signer, what), due[what]);
        }
    }

    private static void termsWithoutBook() {
        Bench.sentence(29, "all lines of the BOOK are right (there are none: all are TERMS)");
        terms(Bench.opened(TWO), 0, 225, 100, 52, 564);
    }

    private static void termsRange() {
        Bench.sentence(29, "pairs of YEARS (1 to 9) and months added (0 to 24)");
        PassagePapers x = Bench.opened(TWO);
        Bench.law(x, 0, "years*100+added");
        terms(x, 0, 225, 100, 100, 924);
        Bench.book(x, "0 924;");
        terms(x, 0, 1, 924, 924, 924);
        Bench.book(x, "0 100;");
        terms(x, 0, 1, 100, 100, 100);
        Bench.book(x, "0 125;");
        terms(x, 0, 0, -1, -1, -1);
        Bench.book(x, "0 24;");
        terms(x, 0, 0, -1, -1, -1);
        Bench.book(x, "0 199;");
        terms(x, 0, 0, -1, -1, -1);
    }

    private static void termsZeroAtLeast() {
        Bench.sentence(29, "ASKS by LAW 0 less W, 0 at least, is N");
        PassagePapers x = Bench.opened(TWO);
        Bench.book(x, "52 0;");
        terms(x, 0, 1, 100, 52, 52);
        Bench.book(x, "51 0;");
        terms(x, 0, 0, -1, -1, -1);
        Bench.book(x, "51 1;");
        terms(x, 0, 1, 100, 52, 52);
        Bench.book(x, "499 0;");
        // 9 years with up to 7 months, 8 with up to 20, all of 7 and below.
        terms(x, 0, 8 + 21 + 7 * 25, 100, 52, 496);
        Bench.book(x, "499 65;");
        terms(x, 0, 1, 924, 564, 564);
    }

    private static void termsAllLines() {
        Bench.sentence(29, "all lines of the BOOK are right");
        PassagePapers x = Bench.opened(TWO);
        Bench.book(x, "0 104;1 103;2 102;3 101;4 100;5 99;6 98;104 0;");
        terms(x, 0, 2, 113, 104, 104);
        Bench.book(x, "0 104;1 103;2 102;3 101;4 100;5 99;6 98;104 1;");
        terms(x, 0, 0, -1, -1, -1);
        Bench.book(x, "0 105;1 103;");
        terms(x, 0, 0, -1, -1, -1);
    }

    private static void termsAllElse() {
        Bench.sentence(29, "had he these, all else as it is");
        PassagePapers x = Bench.opened("signer 5 1 1;signer 4 2 1;taker 1 20 2;voyage 0;stores 1;");
        Bench.done(x, "week;lose 1;week;land;place 0 0;week;add 0 9;");
        Bench.law(x, 0, "years*100+trade*10+hungry+kin*20+lost*40+placed+week");
        // Of 1: 20 by trade, hungry 2, kin 20, lost 40, placed this week 3, week 3.
        terms(x, 1, 225, 100, 100 + 88, 900 + 88);
        // Of 0: 10 by trade, hungry 1, kin 20, placed in week 2, week 3.
        terms(x, 0, 225, 100, 100 + 36, 900 + 36);
        Bench.book(x, "0 336;");
        terms(x, 0, 25, 300, 336, 336);
        terms(x, 1, 0, -1, -1, -1);
        Bench.due("nothing stays changed", x.signer(0, 0), 5);
        Bench.due("nothing stays changed", x.signer(0, 6), 9);
        Bench.due("nothing stays changed", x.asks(0, 0), 536);
    }

    private static void termsByLawZero() {
        Bench.sentence(29, "ASKS by LAW 0");
        PassagePapers x = Bench.opened(TWO);
        Bench.law(x, 1, "7");
        terms(x, 0, 225, 100, 52, 564);
        Bench.law(x, 0, "999+years");
        terms(x, 0, 225, 100, 999, 999);
        Bench.law(x, 0, "0-years");
        terms(x, 0, 225, 100, 0, 0);
    }

    private static void termsNone() {
        Bench.sentence(29, "1 the first (.. NONE), 2 the least ASKS of them, 3 the greatest (NONE both without)");
        PassagePapers x = Bench.opened(TWO);
        Bench.book(x, "0 0;");
        terms(x, 0, 0, -1, -1, -1);
        Bench.book(x, "");
        terms(x, 0, 225, 100, 52, 564);
    }

    private static void termsLeastGreatest() {
        Bench.sentence(29, "1 the first (100 times the YEARS, and the months), 2 the least ASKS of them, 3 the greatest");
        PassagePapers x = Bench.opened(TWO);
        // The least are not asked by the first: 9 years ask 10, 1 year asks 90.
        Bench.law(x, 0, "100-years*10");
        terms(x, 0, 225, 100, 10, 90);
        Bench.law(x, 0, "(years-5)*(years-5)+added/24*(years/9)*100");
        terms(x, 0, 225, 100, 0, 116);
        Bench.book(x, "0 116;");
        terms(x, 0, 1, 924, 116, 116);
        Bench.book(x, "20 0;");
        terms(x, 0, 224, 100, 0, 16);
    }

    private static void termsOfFree() {
        Bench.sentence(29, "TERMS of a SIGNER (whoever he is)");
        PassagePapers x = Bench.opened(TWO + "kinsman 0 999;");
        Bench.done(x, "land;pay 0;");
        Bench.book(x, "0 104;");
        terms(x, 0, 2, 113, 104, 104);
        terms(x, 1, 2, 113, 104, 104);
    }

    private static void termsRefused() {
        Bench.sentence(29, "NoSuchElementException, IllegalArgumentException");
        PassagePapers x = Bench.opened(TWO);
        for (int what : new int[] {-1, 4, Integer.MIN_VALUE, Integer.MAX_VALUE}) {
            Bench.illegal("what " + what, () -> x.terms(0, what));
        }
        for (int s : new int[] {-1, 2, 8, Integer.MIN_VALUE, Integer.MAX_VALUE}) {
            Bench.noSuch("signer " + s, () -> x.terms(s, 0));
            Bench.noSuch("signer " + s + ", another what", () -> x.terms(s, 4));
        }
    }

    private static void ask(PassagePapers x, int week, int left) {
        Bench.due("the week to ask for", x.ask(0, 0), week);
        Bench.due("left at the worst", x.ask(0, 1), left);
        Bench.due("the week once more", x.ask(0, 0), week);
    }

    private static void askFirst() {
        Bench.sentence(30, "the WEEK of service, 0 to 499, .. of these the first");
        PassagePapers x = Bench.opened(TWO);
        ask(x, 0, 2);
        Bench.law(x, 0, "500");
        ask(x, 0, 225);
        Bench.law(x, 0, "0");
        ask(x, 0, 225);
    }

    private static void askInNoLine() {
        Bench.sentence(30, "in no line");
        PassagePapers x = Bench.opened(TWO);
        Bench.book(x, "0 104;");
        ask(x, 1, 2);
        Bench.book(x, "0 104;1 103;2 102;3 101;4 100;5 99;6 98;7 97;");
        ask(x, 8, 2);
        Bench.book(x, "3 101;0 104;2 102;104 0;");
        ask(x, 1, 2);
        Bench.book(x, "1 103;2 102;");
        ask(x, 0, 2);
    }

    private static void askNoTerms() {
        Bench.sentence(30, "fewest TERMS are left at the worst (there are none: the first WEEK in no line)");
        PassagePapers x = Bench.opened(TWO);
        Bench.book(x, "499 999;");
        ask(x, 0, 0);
        Bench.book(x, "0 0;1 999;");
        ask(x, 2, 0);
        Bench.book(x, "0 0;1 0;2 0;3 0;4 0;5 0;6 0;7 999;");
        ask(x, 8, 0);
    }

    private static void askLeft() {
        Bench.sentence(30, "by which, whatever is said, fewest TERMS are left at the worst");
        PassagePapers x = Bench.opened(TWO);
        Bench.law(x, 0, "years*100+added");
        ask(x, 0, 1);
        Bench.law(x, 0, "years*25+added");
        ask(x, 0, 1);
        Bench.law(x, 0, "years");
        ask(x, 0, 25);
        Bench.book(x, "0 5;");
        ask(x, 1, 25);
        Bench.law(x, 0, "most[years-6,0]");
        Bench.book(x, "");
        // 1 to 6 years ask 0; 7, 8, 9 ask 1, 2, 3.
        ask(x, 0, 150);
        Bench.book(x, "1 0;");
        ask(x, 0, 150);
        Bench.book(x, "0 0;");
        ask(x, 1, 150);
        Bench.law(x, 0, "years/9*999");
        Bench.book(x, "5 994;");
        ask(x, 0, 25);
        // 1 year asks nothing, all others ask 999, the most there is.
        Bench.law(x, 0, "(years-1)*999");
        Bench.book(x, "");
        ask(x, 0, 200);
    }

    private static void askAlike() {
        Bench.sentence(30, "of these the first (a later WEEK tells no more: those that ask less say 0 alike)");
        PassagePapers x = Bench.opened(TWO);
        // 25 terms each ask 1 to 9: in week 1 they are told apart as well, in week 2 no more.
        Bench.law(x, 0, "years");
        Bench.book(x, "499 0;");
        ask(x, 0, 25);
        Bench.book(x, "5 0;4 0;3 1;2 2;");
        Bench.due("4 is asked", x.terms(0, 2), 4);
        ask(x, 0, 25);
        Bench.book(x, "8 0;7 0;6 0;0 4;");
        ask(x, 1, 25);
        Bench.law(x, 0, "most[0,years-3]");
        Bench.book(x, "9 0;8 0;7 0;6 0;");
        // 1 to 3 years ask nothing: 75 terms say so.
        ask(x, 0, 75);
        Bench.law(x, 0, "years*111");
        Bench.book(x, "498 0;");
        Bench.due("111, 222, 333, 444", x.terms(0, 0), 100);
        ask(x, 0, 25);
        Bench.book(x, "499 500;");
        Bench.due("9 years: 999", x.terms(0, 2), 999);
        ask(x, 0, 25);
    }

    private static void askRefused() {
        Bench.sentence(30, "NoSuchElementException, IllegalArgumentException");
        PassagePapers x = Bench.opened(TWO);
        for (int what : new int[] {-1, 2, Integer.MIN_VALUE, Integer.MAX_VALUE}) {
            Bench.illegal("what " + what, () -> x.ask(0, what));
        }
        for (int s : new int[] {-1, 2, 8, Integer.MIN_VALUE, Integer.MAX_VALUE}) {
            Bench.noSuch("signer " + s, () -> x.ask(s, 0));
            Bench.noSuch("signer " + s + ", another what", () -> x.ask(s, 2));
        }
    }
}
