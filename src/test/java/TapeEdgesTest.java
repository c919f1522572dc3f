/** Promises 1, 2 and 7, and how the four calls that read the tape use it: a sentence, a test. */
public final class TapeEdgesTest {
    private static final int BLANKS = 0x20202020;

    public static void main(String[] args) {
        newObject();
        newObjectIsAnEmptyRegister();
        feedTwenty();
        feedHighestFirst();
        feedFull();
        feedFullThenEmptied();
        firstBytesOfTape();
        tapeEmptyThen();
        noBytesAtAll();
        allBytes();
        outsideTheTape();
        tapeStaysThen();
        longestTexts();
        textsTooLong();
        anotherWhich();
        faultNone();
        faultOfLatestText();
        faultKept();
        Bench.end("TapeEdgesTest");
    }

    private static void newObject() {
        Bench.sentence(1, "A REGISTER without CLAUSES.");
        PassagePapers x = new PassagePapers();
        Bench.due("picture", Bench.picture(x), "0 0 0 60 0 0 0 0 0 8 ");
        Bench.due("told 9", x.told(9), 0);
        for (int what = 0; what <= 2; what++) {
            Bench.due("count " + what, x.count(what), 0);
        }
        Bench.due("fault", x.fault(), -1);
        Bench.due("no such calls", x.status(0), 0);
        Bench.due("illegal calls", x.status(1), 0);
        Bench.due("undo", x.undo(), -1);
        Bench.due("restore", x.restore(), -1);
        Bench.noSuch("no signer", () -> x.signer(0, 0));
        Bench.noSuch("no taker", () -> x.taker(0, 0));
    }

    private static void newObjectIsAnEmptyRegister() {
        Bench.sentence(1, "A REGISTER without CLAUSES (as an empty text tells it).");
        PassagePapers x = new PassagePapers();
        Bench.due("week", Bench.work(x, "week;week;land;"), 2);
        Bench.due("nobody to land", x.told(9), 1);
        Bench.due("stores stay", x.told(3), 60);
        Bench.due("an empty text", x.register(0), 0);
        Bench.due("as at first", Bench.picture(x), Bench.picture(new PassagePapers()));
        Bench.due("no signer to name", Bench.work(x, "pay 0;"), -8);
        Bench.due("a law can stand", Bench.law(x, 0, "7"), 1);
        Bench.due("and is asked", x.would(1, 0, 0, 0, 0, 0), 7);
    }

    private static void feedTwenty() {
        Bench.sentence(2, "Twenty bytes come on the TAPE: how many there are");
        PassagePapers x = new PassagePapers();
        Bench.due("first", x.feed(0, 0, 0, 0, 0), 20);
        Bench.due("second", x.feed(-1, -1, -1, -1, -1), 40);
        Bench.due("third", x.feed(Integer.MIN_VALUE, Integer.MAX_VALUE, 0, 1, 2), 60);
        Bench.due("count", x.count(1), 60);
    }

    private static void feedHighestFirst() {
        Bench.sentence(2, "of each number the highest first");
        PassagePapers x = new PassagePapers();
        x.feed(0x73746f72, 0x65732033, 0x39373b20, BLANKS, BLANKS);
        Bench.due("stores 397;", x.register(20), 0);
        Bench.due("stores", x.told(3), 397);
        // A byte that can't stand, at each place of a number: its place is told.
        int[] spoiled = {0x80202020, 0x20ff2020, 0x2020e920, 0x20202001};
        for (int number = 0; number < 5; number++) {
            for (int place = 0; place < 4; place++) {
                int[] w = {BLANKS, BLANKS, BLANKS, BLANKS, BLANKS};
                w[number] = spoiled[place];
                x.feed(w[0], w[1], w[2], w[3], w[4]);
                Bench.due("spoiled " + number + ", " + place, x.register(20), -9);
                Bench.due("place", x.fault(), 4 * number + place);
            }
        }
    }

    private static void feedFull() {
        Bench.sentence(2, "NONE, doing nothing, if there would be more than 600");
        PassagePapers x = new PassagePapers();
        Bench.feed(x, "voyage 3;           ");
        for (int i = 2; i <= 29; i++) {
            Bench.due("feed " + i, x.feed(BLANKS, BLANKS, BLANKS, BLANKS, BLANKS), 20 * i);
        }
        Bench.due("up to 600", x.feed(BLANKS, BLANKS, 0x2073746f, 0x72657320, 0x3137333b), 600);
        Bench.due("one more", x.feed(0, 0, 0, 0, 0), -1);
        Bench.due("and again", x.feed(-1, -1, -1, -1, -1), -1);
        Bench.due("as many as before", x.count(1), 600);
        Bench.due("no call was refused by an exception", x.status(1), 0);
        Bench.due("the bytes are those before", x.register(600), 0);
        Bench.due("the last ones", x.told(3), 173);
        Bench.due("the first ones", x.told(10), 3);
    }

    private static void feedFullThenEmptied() {
        Bench.sentence(2, "NONE, doing nothing, if there would be more than 600 (emptied, it takes bytes again)");
        PassagePapers x = new PassagePapers();
        Bench.feed(x, " ".repeat(600));
        Bench.due("full", x.feed(0, 0, 0, 0, 0), -1);
        Bench.due("read", x.register(600), 0);
        Bench.due("from the start", x.feed(BLANKS, BLANKS, BLANKS, BLANKS, BLANKS), 20);
        Bench.due("read", x.register(20), 0);
    }

    /** What each of the four calls answers to a text that stands, and to one that is cut short. */
    private static void firstBytesOfTape() {
        Bench.sentence(3, "The first n bytes of the TAPE");
        PassagePapers x = new PassagePapers();
        Bench.feed(x, "stores 5;stores 6;");
        Bench.due("register", x.register(9), 0);
        Bench.due("stores", x.told(3), 5);
        Bench.feed(x, "stores 57;");
        Bench.due("a text that n cuts", x.register(8), -9);
        Bench.due("ends there", x.fault(), 8);
        Bench.sentence(4, "Likewise a LAW (the first n bytes)");
        Bench.feed(x, "12345");
        Bench.due("law", x.law(0, 2), 1);
        Bench.due("12", x.would(1, 0, 0, 0, 0, 0), 12);
        Bench.sentence(5, "Likewise WORK (the first n bytes)");
        Bench.feed(x, "week;week;week;");
        Bench.due("work", x.work(10), 2);
        Bench.sentence(6, "Likewise the BOOK (the first n bytes)");
        Bench.feed(x, "1 1;2 2;3 3;");
        Bench.due("book", x.book(8), 2);
    }

    private static void tapeEmptyThen() {
        Bench.sentence(3, "(empty then)");
        PassagePapers x = new PassagePapers();
        Bench.feed(x, "stores 5;".repeat(9));
        x.register(9);
        Bench.due("behind a register", x.count(1), 0);
        Bench.feed(x, "stores;".repeat(9));
        Bench.due("fault", x.register(9), -9);
        Bench.due("behind its fault", x.count(1), 0);
        Bench.sentence(4, "Likewise a LAW (empty then)");
        Bench.law(x, 1, "7");
        Bench.due("behind a law", x.count(1), 0);
        Bench.due("fault", Bench.law(x, 1, "x"), -9);
        Bench.due("behind its fault", x.count(1), 0);
        Bench.sentence(5, "Likewise WORK (empty then)");
        Bench.work(x, "week;");
        Bench.due("behind a work", x.count(1), 0);
        Bench.due("fault", Bench.work(x, "week"), -9);
        Bench.due("behind its fault", x.count(1), 0);
        Bench.sentence(6, "Likewise the BOOK (empty then)");
        Bench.book(x, "1 1;");
        Bench.due("behind a book", x.count(1), 0);
        Bench.due("fault", Bench.book(x, "1;"), -9);
        Bench.due("behind its fault", x.count(1), 0);
    }

    private static void noBytesAtAll() {
        Bench.sentence(3, "n is not 0 to the TAPE's bytes (0 is)");
        PassagePapers x = new PassagePapers();
        Bench.due("register, no tape", x.register(0), 0);
        Bench.feed(x, "signer 1 0 0;");
        Bench.due("register, of a tape with bytes", x.register(0), 0);
        Bench.due("the tape is empty then", x.count(1), 0);
        Bench.due("no signer was told", x.told(0), 0);
        Bench.sentence(4, "Likewise (n is 0: the text ends too early)");
        Bench.feed(x, "7");
        Bench.due("law", x.law(0, 0), -9);
        Bench.due("at the length", x.fault(), 0);
        Bench.due("the tape is empty then", x.count(1), 0);
        Bench.sentence(5, "Likewise WORK (n is 0: no STEP)");
        Bench.feed(x, "week;");
        Bench.due("work", x.work(0), 0);
        Bench.due("it is a work", x.count(2), 1);
        Bench.due("no week", x.told(2), 0);
        Bench.due("the tape is empty then", x.count(1), 0);
        Bench.sentence(6, "Likewise the BOOK (n is 0: no line)");
        Bench.book(x, "1 1;");
        Bench.feed(x, "2 2;");
        Bench.due("book", x.book(0), 0);
        Bench.due("no line any more", x.told(8), 0);
        Bench.due("the tape is empty then", x.count(1), 0);
        Bench.due("no call was refused", x.status(1), 0);
    }

    private static void allBytes() {
        Bench.sentence(3, "n is not 0 to the TAPE's bytes (all of them are)");
        PassagePapers x = new PassagePapers();
        Bench.feed(x, "stores 5; voyage 11;");
        Bench.due("register", x.register(20), 0);
        Bench.due("the last of it", x.told(10), 11);
        Bench.feed(x, "stores 5;");
        Bench.due("the bytes behind it are 0, which can't stand", x.register(20), -9);
        Bench.due("there", x.fault(), 9);
        Bench.sentence(4, "Likewise (n is all of the TAPE's bytes)");
        Bench.feed(x, "100+ 200 + 300 +  17");
        Bench.due("law", x.law(0, 20), 1);
        Bench.due("all of it", x.would(1, 0, 0, 0, 0, 0), 617);
        Bench.sentence(5, "Likewise WORK (n is all of the TAPE's bytes)");
        Bench.feed(x, "week;week;week;week;");
        Bench.due("work", x.work(20), 4);
        Bench.sentence(6, "Likewise the BOOK (n is all of the TAPE's bytes)");
        Bench.feed(x, "1 1;2 2;3 3;4 4;5 5;");
        Bench.due("book", x.book(20), 5);
    }

    private static void outsideTheTape() {
        int[] outside = {-1, 21, 22, 40, 100, 150, 600, Integer.MIN_VALUE, Integer.MAX_VALUE};
        PassagePapers x = new PassagePapers();
        Bench.feed(x, " ");
        for (int n : outside) {
            Bench.sentence(3, "IllegalArgumentException: n is not 0 to the TAPE's bytes");
            Bench.illegal("register " + n, () -> x.register(n));
            Bench.sentence(4, "Likewise (n is not 0 to the TAPE's bytes)");
            Bench.illegal("law " + n, () -> x.law(0, n));
            Bench.sentence(5, "Likewise (n is not 0 to the TAPE's bytes)");
            Bench.illegal("work " + n, () -> x.work(n));
            Bench.sentence(6, "Likewise (n is not 0 to the TAPE's bytes)");
            Bench.illegal("book " + n, () -> x.book(n));
        }
        Bench.due("counted", x.status(1), 4 * outside.length);
        PassagePapers y = new PassagePapers();
        Bench.illegal("an empty tape: register 1", () -> y.register(1));
        Bench.illegal("an empty tape: law 1", () -> y.law(0, 1));
        Bench.illegal("an empty tape: work 1", () -> y.work(1));
        Bench.illegal("an empty tape: book 1", () -> y.book(1));
    }

    private static void tapeStaysThen() {
        Bench.sentence(3, "n is not 0 to the TAPE's bytes (it stays)");
        PassagePapers x = new PassagePapers();
        Bench.feed(x, "stores 5; voyage 11;");
        Bench.illegal("register", () -> x.register(21));
        Bench.illegal("register", () -> x.register(-1));
        Bench.due("as many", x.count(1), 20);
        Bench.due("and the same", x.register(20), 0);
        Bench.due("so", x.told(10), 11);
        Bench.sentence(4, "Likewise (it stays)");
        Bench.feed(x, "123");
        Bench.illegal("law", () -> x.law(0, 21));
        Bench.illegal("which", () -> x.law(2, 3));
        Bench.due("as many", x.count(1), 20);
        Bench.due("and the same", x.law(0, 3), 1);
        Bench.due("so", x.would(1, 0, 0, 0, 0, 0), 123);
        Bench.sentence(5, "Likewise (it stays)");
        Bench.feed(x, "week;");
        Bench.illegal("work", () -> x.work(21));
        Bench.due("as many", x.count(1), 20);
        Bench.due("and the same", x.work(5), 1);
        Bench.sentence(6, "Likewise (it stays)");
        Bench.feed(x, "1 1;");
        Bench.illegal("book", () -> x.book(21));
        Bench.due("as many", x.count(1), 20);
        Bench.due("and the same", x.book(4), 1);
    }

    /** A text of so many bytes, with blanks ahead. */
    private static String padded(String text, int length) {
        return " ".repeat(length - text.length()) + text;
    }

    private static void longestTexts() {
        Bench.sentence(3, "A REGISTER is a text of up to 600 bytes");
        PassagePapers x = new PassagePapers();
        Bench.due("600 bytes", Bench.register(x, padded("stores 77;", 600)), 0);
        Bench.due("to the last", x.told(3), 77);
        Bench.due("a fault at the last byte", Bench.register(x, padded("stores 77", 599) + "x"), -9);
        Bench.due("there", x.fault(), 599);
        Bench.due("600 bytes that end too early", Bench.register(x, padded("stores 77", 600)), -9);
        Bench.due("at the length", x.fault(), 600);
        Bench.sentence(4, "n to 150");
        Bench.due("150 bytes", Bench.law(x, 0, padded("77", 150)), 1);
        Bench.due("to the last", x.would(1, 0, 0, 0, 0, 0), 77);
        Bench.due("ends too early", Bench.law(x, 0, padded("77+", 150)), -9);
        Bench.due("at the length", x.fault(), 150);
        Bench.sentence(5, "n to 150");
        Bench.due("150 bytes", Bench.work(x, "week;".repeat(30)), 30);
        Bench.due("ends too early", Bench.work(x, padded("week", 150)), -9);
        Bench.due("at the length", x.fault(), 150);
        Bench.sentence(6, "n to 100");
        Bench.due("100 bytes", Bench.book(x, padded("1 77;", 100)), 1);
        Bench.due("ends too early", Bench.book(x, padded("1 77", 100)), -9);
        Bench.due("at the length", x.fault(), 100);
    }

    private static void textsTooLong() {
        PassagePapers x = new PassagePapers();
        Bench.feed(x, " ".repeat(600));
        Bench.sentence(4, "IllegalArgumentException (n beyond 150)");
        Bench.illegal("law 151", () -> x.law(0, 151));
        Bench.illegal("law 600", () -> x.law(1, 600));
        Bench.sentence(5, "Likewise (n beyond 150)");
        Bench.illegal("work 151", () -> x.work(151));
        Bench.illegal("work 600", () -> x.work(600));
        Bench.sentence(6, "Likewise (n beyond 100)");
        Bench.illegal("book 101", () -> x.book(101));
        Bench.illegal("book 150", () -> x.book(150));
        Bench.due("the tape stays", x.count(1), 600);
        Bench.due("no work", x.count(2), 0);
        Bench.due("counted", x.status(1), 6);
        Bench.fine("register 600", () -> x.register(600));
    }

    private static void anotherWhich() {
        Bench.sentence(4, "IllegalArgumentException also: another which.");
        PassagePapers x = new PassagePapers();
        Bench.feed(x, "7");
        for (int which : new int[] {-1, 2, 3, Integer.MIN_VALUE, Integer.MAX_VALUE}) {
            Bench.illegal("which " + which, () -> x.law(which, 1));
        }
        Bench.illegal("which and n, one call", () -> x.law(2, 99));
        Bench.due("counted", x.status(1), 6);
        Bench.due("the law stays", x.would(1, 0, 0, 0, 0, 0), 52);
        Bench.fine("which 0", () -> x.law(0, 1));
        Bench.feed(x, "8");
        Bench.fine("which 1", () -> x.law(1, 1));
        Bench.due("0 the court's", x.would(1, 0, 0, 0, 0, 0), 7);
    }

    private static void faultNone() {
        Bench.sentence(7, "NONE without.");
        PassagePapers x = new PassagePapers();
        Bench.due("ahead of any text", x.fault(), -1);
        x.register(0);
        Bench.due("an empty register", x.fault(), -1);
        Bench.register(x, "stores 1;");
        Bench.due("a register", x.fault(), -1);
        Bench.law(x, 0, "1");
        Bench.due("a law", x.fault(), -1);
        Bench.work(x, "land;");
        Bench.due("a work, its step refused", x.fault(), -1);
        Bench.book(x, "1 1;");
        Bench.due("a book", x.fault(), -1);
    }

    private static void faultOfLatestText() {
        Bench.sentence(7, "The place of the FAULT of the latest text");
        PassagePapers x = new PassagePapers();
        Bench.register(x, "  stores;");
        Bench.due("a register's", x.fault(), 8);
        Bench.law(x, 0, "1+");
        Bench.due("a law's", x.fault(), 2);
        x.law(1, 0);
        Bench.due("of no bytes", x.fault(), 0);
        Bench.work(x, "week;x");
        Bench.due("a work's", x.fault(), 5);
        Bench.book(x, "1 1000;");
        Bench.due("a book's", x.fault(), 2);
        Bench.book(x, "1 100;");
        Bench.due("none behind a text that stands", x.fault(), -1);
        Bench.work(x, "weak;");
        Bench.due("at byte 0", x.fault(), 0);
        Bench.register(x, "stores 1;");
        Bench.due("none behind another one", x.fault(), -1);
    }

    private static void faultKept() {
        Bench.sentence(7, "of the latest text (calls that read none leave it)");
        PassagePapers x = Bench.opened("signer 1 0 0;");
        Bench.done(x, "week;");
        x.image();
        Bench.work(x, "week;week;x");
        Bench.due("told", x.fault(), 10);
        Bench.illegal("no text", () -> x.work(1));
        Bench.illegal("no text", () -> x.law(2, 0));
        Bench.noSuch("no text", () -> x.owes(1));
        Bench.due("a refused call", x.fault(), 10);
        x.feed(0, 0, 0, 0, 0);
        Bench.due("feed", x.fault(), 10);
        x.undo();
        Bench.due("undo", x.fault(), 10);
        x.restore();
        Bench.due("restore", x.fault(), 10);
        x.image();
        Bench.due("image", x.fault(), 10);
        x.fault();
        Bench.due("fault", x.fault(), 10);
    }
}
