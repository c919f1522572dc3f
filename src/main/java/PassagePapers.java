import java.util.NoSuchElementException;

/**
 * A landing's register of those who signed for years of service against their passage: what the
 * work of the weeks makes of them, and all that can be asked about it.
 *
 * <p>Every row is made once, with the object, and used again by each call, so that no call but the
 * constructor makes objects (an exception that is due excepted).
 */
public final class PassagePapers {
    public static final int NONE = -1;

    private static final int SIGNERS_MOST = 8;
    private static final int TAKERS_MOST = 5;
    private static final int CLAUSES_MOST = 60;
    private static final int TAPE_MOST = 600;
    private static final int LAW_MOST = 150;
    private static final int WORK_MOST = 150;
    private static final int BOOK_MOST = 100;
    private static final int LINES_MOST = 8;
    private static final int OPEN_MOST = 6;
    private static final int WORKS_MOST = 16;
    private static final int IMAGES_MOST = 3;
    private static final int BEGUN_MOST = 200;
    private static final int ADDED_MOST = 99;
    private static final int LAST_WEEK = 900;
    private static final int AHEAD_MOST = 600;
    private static final int ASKS_MOST = 999;
    private static final int SERVICE_MOST = 499;
    private static final int TOLD_STORES = 60;
    private static final int TOLD_VOYAGE = 8;

    private static final int COURT = 0;
    private static final int TAKERS_OWN = 1;

    private static final int ABOARD = 0;
    private static final int ASHORE = 1;
    private static final int BOUND = 2;
    private static final int FREE = 3;

    private static final int CANNOT_STAND = 1;
    private static final int NONE_SUCH = 2;
    private static final int TOO_MANY = 3;

    private final Tape tape = new Tape();
    private final Ledger ledger = new Ledger();
    private final Archive archive = new Archive();
    private final Law lawDraft = new Law();
    private final Steps steps = new Steps();
    private final Terms found = new Terms();
    private final Placing placing = new Placing();
    private final Voyage sailed = new Voyage();
    private Register registerDraft = new Register();
    private Book said = new Book();
    private Book bookDraft = new Book();
    private int refusedSteps = 0;
    private int noSuchCalls = 0;
    private int illegalCalls = 0;

    public PassagePapers() {
    }

    public int feed(int a, int b, int c, int d, int e) {
        if (tape.length() + 20 > TAPE_MOST) {
            return NONE;
        }
        tape.add(a);
        tape.add(b);
        tape.add(c);
        tape.add(d);
        tape.add(e);
        return tape.length();
    }

    public int register(int n) throws IllegalArgumentException {
        needText(n, TAPE_MOST);
        tape.begin(n);
        registerDraft.read(tape);
        tape.clear();
        if (tape.isFaulty()) {
            return tape.faultAnswer();
        }
        Register old = ledger.current();
        ledger.open(registerDraft);
        registerDraft = old;
        said.clear();
        archive.clear();
        refusedSteps = 0;
        return ledger.current().signers();
    }

    public int law(int which, int n) throws IllegalArgumentException {
        need(which == COURT || which == TAKERS_OWN);
        needText(n, LAW_MOST);
        tape.begin(n);
        lawDraft.read(tape);
        tape.clear();
        if (tape.isFaulty()) {
            return tape.faultAnswer();
        }
        ledger.lawOf(which).takeFrom(lawDraft);
        return 1;
    }

    public int work(int n) throws IllegalArgumentException {
        needText(n, WORK_MOST);
        if (archive.works() >= WORKS_MOST) {
            tape.forgetFault();
            tape.clear();
            return -20;
        }
        tape.begin(n);
        steps.read(tape, ledger.current());
        tape.clear();
        if (tape.isFaulty()) {
            return tape.faultAnswer();
        }
        archive.keepWork(ledger.state());
        steps.begin();
        steps.runPart(ledger, 0, steps.length(), 0);
        refusedSteps = steps.refused();
        return steps.done();
    }

    public int book(int n) throws IllegalArgumentException {
        needText(n, BOOK_MOST);
        tape.begin(n);
        bookDraft.read(tape);
        tape.clear();
        if (tape.isFaulty()) {
            return tape.faultAnswer();
        }
        Book old = said;
        said = bookDraft;
        bookDraft = old;
        return said.lines();
    }

    public int fault() {
        return tape.faultPlace();
    }

    public int undo() {
        if (archive.works() <= 0) {
            return -1;
        }
        archive.takeBackWork(ledger.state());
        refusedSteps = 0;
        return archive.works();
    }

    public int told(int what) throws IllegalArgumentException {
        need(what >= 0 && what <= 10);
        switch (what) {
            case 0: return ledger.current().signers();
            case 1: return ledger.current().takers();
            case 2: return ledger.state().week();
            case 3: return ledger.state().stores();
            case 4: return ledger.countOf(ABOARD);
            case 5: return ledger.countOf(ASHORE);
            case 6: return ledger.countOf(BOUND);
            case 7: return ledger.countOf(FREE);
            case 8: return said.lines();
            case 9: return refusedSteps;
            default: return ledger.current().weeksOfVoyage();
        }
    }

    public int signer(int signer, int what)
            throws NoSuchElementException, IllegalArgumentException {
        needSigner(signer);
        need(what >= 0 && what <= 9);
        switch (what) {
            case 0: return ledger.current().yearsOf(signer);
            case 1: return ledger.current().tradeOf(signer);
            case 2: return ledger.current().kindredOf(signer);
            case 3: return ledger.state().get(State.WHERE, signer);
            case 4: return ledger.state().get(State.BOUND_TO, signer);
            case 5: return ledger.state().get(State.SERVICE, signer);
            case 6: return ledger.state().get(State.ADDED, signer);
            case 7: return ledger.state().get(State.HUNGRY, signer);
            case 8: return ledger.state().get(State.LOST, signer);
            default: return ledger.state().get(State.COINS, signer);
        }
    }

    public int taker(int taker, int what) throws NoSuchElementException, IllegalArgumentException {
        needTaker(taker);
        need(what >= 0 && what <= 3);
        switch (what) {
            case 0: return ledger.current().wantedBy(taker);
            case 1: return ledger.current().priceOf(taker);
            case 2: return ledger.current().roomOf(taker);
            default: return ledger.boundTo(taker);
        }
    }

    public int asks(int signer, int which) throws NoSuchElementException, IllegalArgumentException {
        needSigner(signer);
        need(which == COURT || which == TAKERS_OWN);
        return ledger.asksNow(signer, which);
    }

    public int owes(int signer) throws NoSuchElementException {
        needSigner(signer);
        return ledger.owesNow(signer);
    }

    public int would(int years, int added, int trade, int hungry, int lost, int week)
            throws IllegalArgumentException {
        need(years >= 1 && years <= 9);
        need(added >= 0 && added <= ADDED_MOST);
        need(trade >= 0 && trade <= 5);
        need(hungry >= 0 && hungry <= 99);
        need(lost == 0 || lost == 1);
        need(week >= 0 && week <= LAST_WEEK);
        return ledger.asksOfNobody(years, added, trade, hungry, lost, week);
    }

    public int held() {
        return ledger.heldBits();
    }

    public int freeIn(int signer) throws NoSuchElementException {
        needSigner(signer);
        return ledger.weeksUntilFree(signer, COURT, AHEAD_MOST);
    }

    public int otherwise(int signer) throws NoSuchElementException {
        needSigner(signer);
        return ledger.weeksUntilFree(signer, TAKERS_OWN, AHEAD_MOST);
    }

    public int ahead(int n, int what) throws IllegalArgumentException {
        need(n >= 0 && n <= AHEAD_MOST);
        need(what >= 0 && what <= 2);
        switch (what) {
            case 0: return ledger.freeAfter(n);
            case 1: return ledger.serviceWithin(n);
            default: return Math.max(0, ledger.countOf(ABOARD) * n - ledger.state().stores());
        }
    }

    public int gives(int taker, int signer) throws NoSuchElementException {
        needTaker(taker);
        needSigner(signer);
        return ledger.givenFor(signer, ledger.owesNow(signer), taker);
    }

    public int best(int what) throws IllegalArgumentException {
        need(what == 0 || what == 1);
        placing.find(ledger);
        return what == 0 ? placing.total() : placing.placed();
    }

    public int bestFor(int signer) throws NoSuchElementException {
        needSigner(signer);
        placing.find(ledger);
        return placing.takerFor(signer);
    }

    public int parted() {
        return ledger.partedPairs();
    }

    public int kin(int signer) throws NoSuchElementException {
        needSigner(signer);
        return ledger.current().kinBits(signer);
    }

    public int fare(int signer) throws NoSuchElementException {
        needSigner(signer);
        return ledger.fareNow(signer);
    }

    public boolean canPay(int signer) throws NoSuchElementException {
        needSigner(signer);
        return ledger.payable(signer, ledger.fareNow(signer));
    }

    public int enough(int n) throws IllegalArgumentException {
        need(n >= 0 && n <= 99);
        return ledger.countOf(ABOARD) * n;
    }

    public int level(int n) throws IllegalArgumentException {
        need(n >= 0 && n <= 99);
        int aboard = ledger.countOf(ABOARD);
        return aboard <= 0 ? NONE : Math.min(n, ledger.state().stores() / aboard);
    }

    public int hunger() {
        int aboard = ledger.countOf(ABOARD);
        if (aboard <= 0) {
            return NONE;
        }
        int fedWeeks = ledger.state().stores() / aboard;
        return fedWeeks <= 99 ? fedWeeks : NONE;
    }

    public int terms(int signer, int what) throws NoSuchElementException, IllegalArgumentException {
        needSigner(signer);
        need(what >= 0 && what <= 3);
        found.find(ledger, said, signer);
        switch (what) {
            case 0: return found.many();
            case 1: return found.first();
            case 2: return found.least();
            default: return found.greatest();
        }
    }

    public int ask(int signer, int what) throws NoSuchElementException, IllegalArgumentException {
        needSigner(signer);
        need(what == 0 || what == 1);
        found.find(ledger, said, signer);
        found.chooseWeek(said);
        return what == 0 ? found.week() : found.leftAtWorst();
    }

    public long court(int n, int q, int part) throws IllegalArgumentException {
        need(isWitnessCount(n));
        need(q >= 0 && q <= 16);
        need(part == 0 || part == 1);
        long above = majorityAbove(n, q);
        int halvings = 0;
        // What stands below is a power of two, so halving is all that least terms take.
        for (int i = 0; i < 4 * n && (above & 1L) == 0L; i++) {
            above = above >> 1;
            halvings++;
        }
        return part == 0 ? above : 1L << (4 * n - halvings);
    }

    public int witnesses(int q, int c) throws IllegalArgumentException {
        need(q >= 0 && q <= 16);
        need(c >= 0 && c <= 16);
        for (int n = 1; n <= 9; n += 2) {
            if (majorityAbove(n, q) * 16L >= ((long) c) << (4 * n)) {
                return n;
            }
        }
        return NONE;
    }

    public int loan(int f, int w, int r) throws IllegalArgumentException {
        need(f >= 0 && f <= 9999);
        need(w >= 0 && w <= 999);
        need(r >= 0 && r <= 100);
        int owed = f;
        for (int weeks = 0; weeks <= AHEAD_MOST; weeks++) {
            if (owed <= 0) {
                return weeks;
            }
            int comes = owed * r / 1000;
            // What does not shrink in one week never does: it could only grow past all bounds.
            if (comes >= w) {
                return NONE;
            }
            owed = owed + comes - w;
        }
        return NONE;
    }

    public int land(int taker, int n) throws NoSuchElementException, IllegalArgumentException {
        needTaker(taker);
        need(n >= 0 && n <= 99);
        return ledger.fieldsOf(taker, n);
    }

    public int bids(int n, int v, int w, int what) throws IllegalArgumentException {
        need(n >= 0 && n <= 20);
        need(v >= 0 && v <= 99);
        need(w >= 0 && w <= 99);
        need(what >= 0 && what <= 2);
        int rests = 0;
        int first = NONE;
        int together = 0;
        for (int one = 0; one <= n; one++) {
            for (int other = 0; other <= n; other++) {
                int oneHas = share(one, other, v);
                int otherHas = share(other, one, w);
                if (oneHas >= bestShare(n, other, v) && otherHas >= bestShare(n, one, w)) {
                    if (rests == 0) {
                        first = 100 * one + other;
                        together = oneHas + otherHas;
                    }
                    rests++;
                }
            }
        }
        switch (what) {
            case 0: return rests;
            case 1: return first;
            default: return together;
        }
    }

    public int has(int own, int other, int v) throws IllegalArgumentException {
        need(own >= 0 && own <= 99);
        need(other >= 0 && other <= 99);
        need(v >= 0 && v <= 99);
        return share(own, other, v);
    }

    public int voyage(int seed, int q, int k, int weeks, int what) throws IllegalArgumentException {
        need(isVoyage(q, k, weeks));
        need(what >= 0 && what <= 3);
        if (what == 3) {
            // Who is bound is not aboard: what is spoiled there does not touch him.
            return ledger.freeAfter(weeks);
        }
        sailed.sail(ledger, seed, q, k, weeks);
        switch (what) {
            case 0: return sailed.hungry();
            case 1: return sailed.storesLeft();
            default: return sailed.spoiled();
        }
    }

    public int span(int seed, int many, int q, int k, int weeks, int what)
            throws IllegalArgumentException {
        need(many >= 1 && many <= 20);
        need(isVoyage(q, k, weeks));
        need(what >= 0 && what <= 2);
        int least = 0;
        int most = 0;
        int nobody = 0;
        for (int i = 0; i < many; i++) {
            sailed.sail(ledger, seed + i, q, k, weeks);
            least = i == 0 ? sailed.hungry() : Math.min(least, sailed.hungry());
            most = Math.max(most, sailed.hungry());
            if (sailed.hungry() == 0) {
                nobody++;
            }
        }
        switch (what) {
            case 0: return least;
            case 1: return most;
            default: return nobody;
        }
    }

    public int image() {
        if (archive.images() >= IMAGES_MOST) {
            return -1;
        }
        archive.keepImage(ledger.state());
        return archive.images();
    }

    public int restore() {
        if (archive.images() <= 0) {
            return -1;
        }
        archive.bringBackImage(ledger.state());
        refusedSteps = 0;
        return archive.images();
    }

    public int status(int what) {
        switch (what) {
            case 0: return noSuchCalls;
            case 1: return illegalCalls;
            default: return NONE;
        }
    }

    public int count(int what) {
        switch (what) {
            case 0: return archive.images();
            case 1: return tape.length();
            case 2: return archive.works();
            default: return NONE;
        }
    }

    private void need(boolean holds) {
        if (!holds) {
            illegalCalls++;
            throw new IllegalArgumentException("an argument is outside its range");
        }
    }

    private void needText(int n, int most) {
        need(n >= 0 && n <= most && n <= tape.length());
    }

    private void needSigner(int signer) {
        if (!ledger.current().isSigner(signer)) {
            noSuchCalls++;
            throw new NoSuchElementException("no such signer");
        }
    }

    private void needTaker(int taker) {
        if (!ledger.current().isTaker(taker)) {
            noSuchCalls++;
            throw new NoSuchElementException("no such taker");
        }
    }

    private static boolean isVoyage(int q, int k, int weeks) {
        return q >= 0 && q <= 16 && k >= 0 && k <= 40 && weeks >= 1 && weeks <= 99;
    }

    private static boolean isWitnessCount(int n) {
        return n >= 1 && n <= 9 && (n & 1) == 1;
    }

    /** How likely more than half of n witnesses say what is so, as a number of 16 to the n. */
    private static long majorityAbove(int n, int q) {
        long above = 0L;
        for (int right = n / 2 + 1; right <= n; right++) {
            above += choices(n, right) * power(q, right) * power(16 - q, n - right);
        }
        return above;
    }

    private static long choices(int n, int k) {
        long ways = 1L;
        for (int i = 1; i <= k; i++) {
            ways = ways * (n - i + 1) / i;
        }
        return ways;
    }

    private static long power(int base, int exponent) {
        long product = 1L;
        for (int i = 0; i < exponent; i++) {
            product *= base;
        }
        return product;
    }

    private static int share(int own, int other, int v) {
        if (own < other) {
            return 0;
        }
        return own > other ? v - own : (v - own) / 2;
    }

    /** The most that one can have against a bid: below it, with it, or just above it. */
    private static int bestShare(int n, int against, int v) {
        int most = share(against, against, v);
        if (against > 0) {
            most = Math.max(most, 0);
        }
        if (against < n) {
            most = Math.max(most, share(against + 1, against, v));
        }
        return most;
    }

    /** What stands in a row at an index; 0 for an index outside of it. */
    private static int at(int[] row, int index) {
        return index >= 0 && index < row.length ? row[index] : 0;
    }

    private static void put(int[] row, int index, int value) {
        if (index >= 0 && index < row.length) {
            row[index] = value;
        }
    }

    private static void copyRow(int[] from, int[] to) {
        System.arraycopy(from, 0, to, 0, Math.min(from.length, to.length));
    }

    /** The bytes that were fed, and the text that is being read from them, token by token. */
    private static final class Tape {
        private static final int FAULTY = 0;
        private static final int END = 1;
        private static final int NUMBER = 2;
        private static final int WORD = 3;
        private static final int SIGN = 4;
        private static final int BLANK = 32;
        // Above all numbers of the document, so that longer ones are none such without wrapping.
        private static final int VALUE_MOST = 1000000;

        private final int[] bytes = new int[TAPE_MOST];
        private int length = 0;
        private int limit = 0;
        private int kind = END;
        private int start = 0;
        private int stop = 0;
        private int value = 0;
        private int fault = 0;
        private int faultPlace = NONE;

        int length() {
            return length;
        }

        void add(int fourBytes) {
            for (int shift = 24; shift >= 0; shift -= 8) {
                if (length < bytes.length) {
                    put(bytes, length, (fourBytes >>> shift) & 255);
                    length++;
                }
            }
        }

        void clear() {
            length = 0;
        }

        void begin(int n) {
            forgetFault();
            limit = Math.min(n, length);
            stop = 0;
            step();
        }

        void forgetFault() {
            fault = 0;
            faultPlace = NONE;
        }

        boolean isFaulty() {
            return fault != 0;
        }

        int faultAnswer() {
            return fault - 10;
        }

        int faultPlace() {
            return faultPlace;
        }

        /** Tells a fault of the token that stands here; from then on nothing is read any more. */
        void blame(int what) {
            if (fault == 0) {
                fault = what;
                faultPlace = start;
            }
            kind = FAULTY;
        }

        void step() {
            start = stop;
            for (int i = 0; i < TAPE_MOST && byteAt(start) == BLANK; i++) {
                start++;
            }
            kind = kindAt(start);
            stop = kind == SIGN ? start + 1 : start;
            value = 0;
            boolean isLong = kind == NUMBER || kind == WORD;
            for (int i = 0; i < TAPE_MOST && isLong && kindAt(stop) == kind; i++) {
                if (kind == NUMBER) {
                    value = Math.min(VALUE_MOST, value * 10 + byteAt(stop) - '0');
                }
                stop++;
            }
        }

        private int kindAt(int place) {
            if (place < 0 || place >= limit || place >= bytes.length) {
                return END;
            }
            int sign = bytes[place];
            if (sign >= '0' && sign <= '9') {
                return NUMBER;
            }
            return sign >= 'a' && sign <= 'z' ? WORD : SIGN;
        }

        boolean hasMore() {
            return kind != END && kind != FAULTY;
        }

        boolean isNumber() {
            return kind == NUMBER;
        }

        int value() {
            return value;
        }

        boolean isSign(char sign) {
            return kind == SIGN && byteAt(start) == sign;
        }

        boolean isWord(String word) {
            if (kind != WORD || stop - start != word.length()) {
                return false;
            }
            for (int i = 0; i < word.length(); i++) {
                if (byteAt(start + i) != word.charAt(i)) {
                    return false;
                }
            }
            return true;
        }

        void pass(char sign) {
            if (isSign(sign)) {
                step();
            } else {
                blame(CANNOT_STAND);
            }
        }

        int number(int least, int most) {
            if (kind != NUMBER) {
                blame(CANNOT_STAND);
                return 0;
            }
            if (value < least || value > most) {
                blame(NONE_SUCH);
                return 0;
            }
            int number = value;
            step();
            return number;
        }

        private int byteAt(int place) {
            return place >= 0 && place < limit && place < bytes.length ? bytes[place] : NONE;
        }
    }

    /** What a REGISTER tells; WORK never changes it. */
    private static final class Register {
        private static final int SIGNER = 0;
        private static final int TAKER = 1;
        private static final int KINSMAN = 2;
        private static final int STORES = 3;
        private static final int VOYAGE = 4;

        private final int[] years = new int[SIGNERS_MOST];
        private final int[] trades = new int[SIGNERS_MOST];
        private final int[] kindred = new int[SIGNERS_MOST];
        private final int[] coins = new int[SIGNERS_MOST];
        private final int[] wanted = new int[TAKERS_MOST];
        private final int[] prices = new int[TAKERS_MOST];
        private final int[] rooms = new int[TAKERS_MOST];
        private int signers = 0;
        private int takers = 0;
        private int stores = TOLD_STORES;
        private int weeks = TOLD_VOYAGE;

        int signers() {
            return signers;
        }

        int takers() {
            return takers;
        }

        int storesTold() {
            return stores;
        }

        int weeksOfVoyage() {
            return weeks;
        }

        boolean isSigner(int signer) {
            return signer >= 0 && signer < signers;
        }

        boolean isTaker(int taker) {
            return taker >= 0 && taker < takers;
        }

        int yearsOf(int signer) {
            return at(years, signer);
        }

        int tradeOf(int signer) {
            return at(trades, signer);
        }

        int kindredOf(int signer) {
            return at(kindred, signer);
        }

        int coinsFor(int signer) {
            return at(coins, signer);
        }

        int wantedBy(int taker) {
            return at(wanted, taker);
        }

        int priceOf(int taker) {
            return at(prices, taker);
        }

        int roomOf(int taker) {
            return at(rooms, taker);
        }

        int kinBits(int signer) {
            int own = at(kindred, signer);
            int bits = 0;
            for (int other = 0; other < signers; other++) {
                if (own != 0 && other != signer && at(kindred, other) == own) {
                    bits |= 1 << other;
                }
            }
            return bits;
        }

        boolean areKin(int one, int other) {
            return (kinBits(one) >> other & 1) == 1;
        }

        void read(Tape tape) {
            signers = 0;
            takers = 0;
            stores = TOLD_STORES;
            weeks = TOLD_VOYAGE;
            for (int clauses = 0; clauses <= CLAUSES_MOST && tape.hasMore(); clauses++) {
                readClause(tape, clauses == CLAUSES_MOST);
            }
        }

        private void readClause(Tape tape, boolean full) {
            int clause = clauseOf(tape);
            if (clause == NONE) {
                tape.blame(CANNOT_STAND);
                return;
            }
            if (full || clause == SIGNER && signers >= SIGNERS_MOST
                    || clause == TAKER && takers >= TAKERS_MOST) {
                tape.blame(TOO_MANY);
                return;
            }
            tape.step();
            switch (clause) {
                case SIGNER: readSigner(tape); break;
                case TAKER: readTaker(tape); break;
                case KINSMAN: readKinsman(tape); break;
                case STORES: stores = tape.number(0, 400); break;
                default: weeks = tape.number(0, 20); break;
            }
            tape.pass(';');
        }

        private static int clauseOf(Tape tape) {
            if (tape.isWord("signer")) {
                return SIGNER;
            }
            if (tape.isWord("taker")) {
                return TAKER;
            }
            if (tape.isWord("kinsman")) {
                return KINSMAN;
            }
            if (tape.isWord("stores")) {
                return STORES;
            }
            return tape.isWord("voyage") ? VOYAGE : NONE;
        }

        private void readSigner(Tape tape) {
            put(years, signers, tape.number(1, 9));
            put(trades, signers, tape.number(0, 5));
            put(kindred, signers, tape.number(0, 4));
            put(coins, signers, 0);
            signers++;
        }

        private void readTaker(Tape tape) {
            put(wanted, takers, tape.number(0, 5));
            put(prices, takers, tape.number(1, 40));
            put(rooms, takers, tape.number(1, 4));
            takers++;
        }

        private void readKinsman(Tape tape) {
            int signer = tape.number(0, signers - 1);
            put(coins, signer, tape.number(0, 999));
        }
    }

    /** A LAW as a row of codes in which the two values of a sign stand ahead of it. */
    private static final class Law {
        private static final int YEARS = 0;
        private static final int ADDED = 1;
        private static final int TRADE = 2;
        private static final int HUNGRY = 3;
        private static final int KIN = 4;
        private static final int LOST = 5;
        private static final int PLACED = 6;
        private static final int WEEK = 7;
        /** How many values a paper has that a law can name. */
        private static final int PAPER = 8;
        private static final int PLUS = 8;
        private static final int MINUS = 9;
        private static final int TIMES = 10;
        private static final int BY = 11;
        private static final int LEAST = 12;
        private static final int MOST = 13;
        /** From here on a code is a number, that much greater. */
        private static final int NUMBERS = 14;
        // Each of the six that may be open keeps three values waiting at the most.
        private static final int STACK = 32;

        private final int[] codes = new int[LAW_MOST];
        private final int[] stack = new int[STACK];
        private int length = 0;

        Law() {
            setPlain();
        }

        /** The law without a text: years * 52 + added * 4. */
        void setPlain() {
            length = 0;
            emit(YEARS);
            emit(NUMBERS + 52);
            emit(TIMES);
            emit(ADDED);
            emit(NUMBERS + 4);
            emit(TIMES);
            emit(PLUS);
        }

        void takeFrom(Law other) {
            copyRow(other.codes, codes);
            length = other.length;
        }

        int asksFor(int[] paper) {
            int top = 0;
            for (int i = 0; i < length && i < codes.length; i++) {
                int code = codes[i];
                if (code >= PLUS && code < NUMBERS) {
                    if (top >= 2 && top <= stack.length) {
                        stack[top - 2] = joined(code, stack[top - 2], stack[top - 1]);
                        top--;
                    }
                } else if (top >= 0 && top < stack.length) {
                    stack[top] = code >= NUMBERS ? code - NUMBERS : at(paper, code);
                    top++;
                }
            }
            return Math.max(0, Math.min(ASKS_MOST, at(stack, 0)));
        }

        private static int joined(int code, int left, int right) {
            switch (code) {
                case PLUS: return left + right;
                case MINUS: return left - right;
                case TIMES: return left * right;
                case BY: return right == 0 ? 0 : left / right;
                case LEAST: return Math.min(left, right);
                default: return Math.max(left, right);
            }
        }

        void read(Tape tape) {
            length = 0;
            readSum(tape, 0);
            if (tape.hasMore()) {
                tape.blame(CANNOT_STAND);
            }
        }

        private void emit(int code) {
            if (length < codes.length) {
                put(codes, length, code);
                length++;
            }
        }

        private void readSum(Tape tape, int open) {
            readProduct(tape, open);
            for (int i = 0; i < LAW_MOST && (tape.isSign('+') || tape.isSign('-')); i++) {
                int code = tape.isSign('+') ? PLUS : MINUS;
                tape.step();
                readProduct(tape, open);
                emit(code);
            }
        }

        private void readProduct(Tape tape, int open) {
            readUnit(tape, open);
            for (int i = 0; i < LAW_MOST && (tape.isSign('*') || tape.isSign('/')); i++) {
                int code = tape.isSign('*') ? TIMES : BY;
                tape.step();
                readUnit(tape, open);
                emit(code);
            }
        }

        private void readUnit(Tape tape, int open) {
            int pair = pairOf(tape);
            int name = nameOf(tape);
            if (tape.isNumber()) {
                emit(NUMBERS + tape.number(0, 999));
            } else if (name != NONE) {
                tape.step();
                emit(name);
            } else if (pair == NONE && !tape.isSign('(')) {
                tape.blame(CANNOT_STAND);
            } else if (open >= OPEN_MOST) {
                tape.blame(TOO_MANY);
            } else if (pair == NONE) {
                tape.step();
                readSum(tape, open + 1);
                tape.pass(')');
            } else {
                tape.step();
                tape.pass('[');
                readSum(tape, open + 1);
                tape.pass(',');
                readSum(tape, open + 1);
                tape.pass(']');
                emit(pair);
            }
        }

        private static int pairOf(Tape tape) {
            if (tape.isWord("least")) {
                return LEAST;
            }
            return tape.isWord("most") ? MOST : NONE;
        }

        private static int nameOf(Tape tape) {
            if (tape.isWord("years")) {
                return YEARS;
            }
            if (tape.isWord("added")) {
                return ADDED;
            }
            if (tape.isWord("trade")) {
                return TRADE;
            }
            if (tape.isWord("hungry")) {
                return HUNGRY;
            }
            if (tape.isWord("kin")) {
                return KIN;
            }
            if (tape.isWord("lost")) {
                return LOST;
            }
            if (tape.isWord("placed")) {
                return PLACED;
            }
            return tape.isWord("week") ? WEEK : NONE;
        }
    }

    /** All that WORK changes, in one row, so that undoing and images are copies of a row. */
    private static final class State {
        private static final int WHERE = 0;
        private static final int BOUND_TO = 1;
        private static final int SERVICE = 2;
        private static final int ADDED = 3;
        private static final int HUNGRY = 4;
        private static final int LOST = 5;
        private static final int COINS = 6;
        private static final int PLACED = 7;
        private static final int FIELDS = 8;
        private static final int WEEK = FIELDS * SIGNERS_MOST;
        private static final int STORES = WEEK + 1;
        private static final int SIZE = WEEK + 2;

        private final int[] row = new int[SIZE];

        void start(Register register) {
            for (int signer = 0; signer < SIGNERS_MOST; signer++) {
                for (int field = 0; field < FIELDS; field++) {
                    set(field, signer, 0);
                }
                set(BOUND_TO, signer, NONE);
                set(PLACED, signer, NONE);
                set(COINS, signer, register.coinsFor(signer));
            }
            setWeek(0);
            setStores(register.storesTold());
        }

        int get(int field, int signer) {
            boolean isSigner = signer >= 0 && signer < SIGNERS_MOST;
            return isSigner ? at(row, field * SIGNERS_MOST + signer) : 0;
        }

        void set(int field, int signer, int value) {
            if (signer >= 0 && signer < SIGNERS_MOST) {
                put(row, field * SIGNERS_MOST + signer, value);
            }
        }

        int week() {
            return at(row, WEEK);
        }

        void setWeek(int week) {
            put(row, WEEK, week);
        }

        int stores() {
            return at(row, STORES);
        }

        void setStores(int stores) {
            put(row, STORES, stores);
        }

        void saveTo(int[] kept) {
            copyRow(row, kept);
        }

        void loadFrom(int[] kept) {
            copyRow(kept, row);
        }
    }

    /** The register, the laws and the state together: what is done, and what follows from it. */
    private static final class Ledger {
        private final State state = new State();
        private final Law courtLaw = new Law();
        private final Law takersLaw = new Law();
        private final int[] paper = new int[Law.PAPER];
        private final int[] heads = new int[TAKERS_MOST];
        private final int[] fields = new int[TAKERS_MOST];
        private Register register = new Register();

        Ledger() {
            state.start(register);
        }

        void open(Register next) {
            register = next;
            courtLaw.setPlain();
            takersLaw.setPlain();
            state.start(next);
        }

        Register current() {
            return register;
        }

        State state() {
            return state;
        }

        Law lawOf(int which) {
            return which == COURT ? courtLaw : takersLaw;
        }

        boolean isAt(int signer, int where) {
            return state.get(State.WHERE, signer) == where;
        }

        int countOf(int where) {
            int many = 0;
            for (int signer = 0; signer < register.signers(); signer++) {
                if (isAt(signer, where)) {
                    many++;
                }
            }
            return many;
        }

        int boundTo(int taker) {
            int many = 0;
            for (int signer = 0; signer < register.signers(); signer++) {
                if (isAt(signer, BOUND) && state.get(State.BOUND_TO, signer) == taker) {
                    many++;
                }
            }
            return many;
        }

        int roomLeft(int taker) {
            return Math.max(0, register.roomOf(taker) - boundTo(taker));
        }

        void writePaper(int signer) {
            int placed = state.get(State.PLACED, signer);
            put(paper, Law.YEARS, register.yearsOf(signer));
            put(paper, Law.ADDED, state.get(State.ADDED, signer));
            put(paper, Law.TRADE, register.tradeOf(signer));
            put(paper, Law.HUNGRY, state.get(State.HUNGRY, signer));
            put(paper, Law.KIN, Integer.bitCount(register.kinBits(signer)));
            put(paper, Law.LOST, state.get(State.LOST, signer));
            put(paper, Law.PLACED, placed == NONE ? state.week() : placed);
            put(paper, Law.WEEK, state.week());
        }

        int asksNow(int signer, int which) {
            writePaper(signer);
            return lawOf(which).asksFor(paper);
        }

        /** Of the paper that was written last, had it these years and months. */
        int asksHad(int years, int added) {
            put(paper, Law.YEARS, years);
            put(paper, Law.ADDED, added);
            return courtLaw.asksFor(paper);
        }

        int asksOfNobody(int years, int added, int trade, int hungry, int lost, int week) {
            put(paper, Law.YEARS, years);
            put(paper, Law.ADDED, added);
            put(paper, Law.TRADE, trade);
            put(paper, Law.HUNGRY, hungry);
            put(paper, Law.KIN, 0);
            put(paper, Law.LOST, lost);
            put(paper, Law.PLACED, 0);
            put(paper, Law.WEEK, week);
            return courtLaw.asksFor(paper);
        }

        int owesNow(int signer) {
            if (isAt(signer, FREE)) {
                return 0;
            }
            writePaper(signer);
            return Math.max(0, courtLaw.asksFor(paper) - state.get(State.SERVICE, signer));
        }

        int heldBits() {
            int bits = 0;
            for (int signer = 0; signer < register.signers(); signer++) {
                if (isAt(signer, BOUND)
                        && state.get(State.SERVICE, signer) >= asksNow(signer, TAKERS_OWN)) {
                    bits |= 1 << signer;
                }
            }
            return bits;
        }

        /** Of what a paper says, only the week goes on for one who is bound. */
        int weeksUntilFree(int signer, int which, int most) {
            if (!isAt(signer, BOUND)) {
                return NONE;
            }
            Law law = lawOf(which);
            int service = state.get(State.SERVICE, signer);
            writePaper(signer);
            for (int weeks = 1; weeks <= most; weeks++) {
                put(paper, Law.WEEK, state.week() + weeks);
                if (law.asksFor(paper) <= service + weeks) {
                    return weeks;
                }
            }
            return NONE;
        }

        int freeAfter(int n) {
            int many = countOf(FREE);
            for (int signer = 0; signer < register.signers(); signer++) {
                if (weeksUntilFree(signer, COURT, n) != NONE) {
                    many++;
                }
            }
            return many;
        }

        int serviceWithin(int n) {
            int sum = 0;
            for (int signer = 0; signer < register.signers(); signer++) {
                if (isAt(signer, BOUND)) {
                    int weeks = weeksUntilFree(signer, COURT, n);
                    sum += weeks == NONE ? n : weeks;
                }
            }
            return sum;
        }

        int givenFor(int signer, int owed, int taker) {
            int whole = register.priceOf(taker) * owed / 52;
            return register.tradeOf(signer) == register.wantedBy(taker) ? whole : whole / 2;
        }

        int partedPairs() {
            int pairs = 0;
            for (int one = 0; one < register.signers(); one++) {
                for (int other = one + 1; other < register.signers(); other++) {
                    if (areParted(one, other)) {
                        pairs++;
                    }
                }
            }
            return pairs;
        }

        private boolean areParted(int one, int other) {
            return register.areKin(one, other) && isAt(one, BOUND) && isAt(other, BOUND)
                    && state.get(State.BOUND_TO, one) != state.get(State.BOUND_TO, other);
        }

        int fareNow(int signer) {
            return isAt(signer, ABOARD) ? NONE : owesNow(signer) / 4;
        }

        boolean payable(int signer, int fare) {
            return (isAt(signer, ASHORE) || isAt(signer, BOUND))
                    && state.get(State.COINS, signer) >= fare;
        }

        int fieldsOf(int taker, int n) {
            for (int each = 0; each < TAKERS_MOST; each++) {
                put(heads, each, boundTo(each));
                put(fields, each, 0);
            }
            for (int field = 0; field < n; field++) {
                int next = nextForField();
                put(fields, next, at(fields, next) + 1);
            }
            return at(fields, taker);
        }

        /** NONE, if nobody is bound to anybody. */
        private int nextForField() {
            int best = NONE;
            for (int each = 0; each < register.takers(); each++) {
                if (at(heads, each) > 0 && (best == NONE || at(heads, each) * (1 + at(fields, best))
                        > at(heads, best) * (1 + at(fields, each)))) {
                    best = each;
                }
            }
            return best;
        }

        /** Does a step that is no again; answers whether it was not refused. */
        boolean perform(int step, int signer, int number) {
            switch (step) {
                case Steps.LAND: return landAll();
                case Steps.PLACE: return bind(signer, number);
                case Steps.ADD: return addMonths(signer, number);
                case Steps.STRIKE: return strikeMonths(signer);
                case Steps.LOSE: return setLost(signer, 1);
                case Steps.COPY: return setLost(signer, 0);
                case Steps.PAY: return payFor(signer);
                case Steps.WEEK: return passWeek();
                default: return false;
            }
        }

        private boolean landAll() {
            if (countOf(ABOARD) == 0 || state.week() < register.weeksOfVoyage()) {
                return false;
            }
            for (int signer = 0; signer < register.signers(); signer++) {
                if (isAt(signer, ABOARD)) {
                    state.set(State.WHERE, signer, ASHORE);
                }
            }
            return true;
        }

        private boolean bind(int signer, int taker) {
            if (!isAt(signer, ASHORE) || boundTo(taker) >= register.roomOf(taker)) {
                return false;
            }
            state.set(State.WHERE, signer, BOUND);
            state.set(State.BOUND_TO, signer, taker);
            state.set(State.SERVICE, signer, 0);
            state.set(State.PLACED, signer, state.week());
            return true;
        }

        private boolean addMonths(int signer, int months) {
            int added = state.get(State.ADDED, signer);
            if (!isAt(signer, BOUND) || added >= ADDED_MOST) {
                return false;
            }
            state.set(State.ADDED, signer, Math.min(ADDED_MOST, added + months));
            return true;
        }

        private boolean strikeMonths(int signer) {
            if (state.get(State.ADDED, signer) == 0) {
                return false;
            }
            state.set(State.ADDED, signer, 0);
            return true;
        }

        private boolean setLost(int signer, int lost) {
            if (isAt(signer, FREE) || state.get(State.LOST, signer) == lost) {
                return false;
            }
            state.set(State.LOST, signer, lost);
            return true;
        }

        private boolean payFor(int signer) {
            int fare = owesNow(signer) / 4;
            if (!payable(signer, fare)) {
                return false;
            }
            state.set(State.COINS, signer, state.get(State.COINS, signer) - fare);
            release(signer);
            return true;
        }

        private boolean passWeek() {
            if (state.week() >= LAST_WEEK) {
                return false;
            }
            for (int signer = 0; signer < register.signers(); signer++) {
                if (isAt(signer, ABOARD)) {
                    eat(signer);
                } else if (isAt(signer, BOUND)) {
                    state.set(State.SERVICE, signer, state.get(State.SERVICE, signer) + 1);
                }
            }
            state.setWeek(state.week() + 1);
            for (int signer = 0; signer < register.signers(); signer++) {
                if (isAt(signer, BOUND) && owesNow(signer) == 0) {
                    release(signer);
                }
            }
            return true;
        }

        private void eat(int signer) {
            if (state.stores() > 0) {
                state.setStores(state.stores() - 1);
            } else {
                state.set(State.HUNGRY, signer, state.get(State.HUNGRY, signer) + 1);
            }
        }

        private void release(int signer) {
            state.set(State.WHERE, signer, FREE);
            state.set(State.BOUND_TO, signer, NONE);
        }
    }

    /** The steps of a WORK, read whole ahead of being done. */
    private static final class Steps {
        private static final int LAND = 0;
        private static final int PLACE = 1;
        private static final int ADD = 2;
        private static final int STRIKE = 3;
        private static final int LOSE = 4;
        private static final int COPY = 5;
        private static final int PAY = 6;
        private static final int WEEK = 7;
        private static final int AGAIN = 8;

        private final int[] kinds = new int[WORK_MOST];
        private final int[] signers = new int[WORK_MOST];
        private final int[] numbers = new int[WORK_MOST];
        /** The place behind a step; for an again, behind all that it holds. */
        private final int[] behind = new int[WORK_MOST];
        private int length = 0;
        private int begun = 0;
        private int done = 0;
        private int refused = 0;

        int length() {
            return length;
        }

        int done() {
            return done;
        }

        int refused() {
            return refused;
        }

        void read(Tape tape, Register register) {
            length = 0;
            for (int i = 0; i < WORK_MOST && tape.hasMore(); i++) {
                readStep(tape, register, 0);
            }
        }

        private void readStep(Tape tape, Register register, int open) {
            int kind = kindOf(tape);
            if (kind == NONE) {
                tape.blame(CANNOT_STAND);
                return;
            }
            if (kind == AGAIN && open >= OPEN_MOST) {
                tape.blame(TOO_MANY);
                return;
            }
            tape.step();
            int place = length;
            length++;
            put(kinds, place, kind);
            if (kind == AGAIN) {
                put(numbers, place, tape.number(0, 60));
                readHeld(tape, register, open + 1);
            } else {
                readNumbers(tape, register, place);
            }
            put(behind, place, length);
            tape.pass(';');
        }

        private void readHeld(Tape tape, Register register, int open) {
            tape.pass('[');
            // At the text's end a step is still asked for, which tells the fault there.
            for (int i = 0; i < WORK_MOST && !tape.isFaulty() && !tape.isSign(']'); i++) {
                readStep(tape, register, open);
            }
            tape.pass(']');
        }

        private void readNumbers(Tape tape, Register register, int place) {
            int kind = at(kinds, place);
            if (kind == LAND || kind == WEEK) {
                return;
            }
            put(signers, place, tape.number(0, register.signers() - 1));
            if (kind == PLACE) {
                put(numbers, place, tape.number(0, register.takers() - 1));
            } else if (kind == ADD) {
                put(numbers, place, tape.number(1, 24));
            }
        }

        private static int kindOf(Tape tape) {
            if (tape.isWord("land")) {
                return LAND;
            }
            if (tape.isWord("place")) {
                return PLACE;
            }
            if (tape.isWord("add")) {
                return ADD;
            }
            if (tape.isWord("strike")) {
                return STRIKE;
            }
            if (tape.isWord("lose")) {
                return LOSE;
            }
            if (tape.isWord("copy")) {
                return COPY;
            }
            if (tape.isWord("pay")) {
                return PAY;
            }
            if (tape.isWord("week")) {
                return WEEK;
            }
            return tape.isWord("again") ? AGAIN : NONE;
        }

        void begin() {
            begun = 0;
            done = 0;
            refused = 0;
        }

        // Private, as LANGUAGE.md (8) asks of methods that call one another: PassagePapers may call it.
        private void runPart(Ledger ledger, int from, int to, int open) {
            for (int i = from; i < to && begun < BEGUN_MOST; i = at(behind, i)) {
                begun++;
                if (at(kinds, i) == AGAIN) {
                    runAgain(ledger, i, open);
                } else if (ledger.perform(at(kinds, i), at(signers, i), at(numbers, i))) {
                    done++;
                } else {
                    refused++;
                }
            }
        }

        private void runAgain(Ledger ledger, int place, int open) {
            if (open >= OPEN_MOST) {
                return;
            }
            for (int i = 0; i < at(numbers, place) && begun < BEGUN_MOST; i++) {
                runPart(ledger, place + 1, at(behind, place), open + 1);
            }
        }
    }

    /** What was said of a lost paper: in which week of service how many more were asked. */
    private static final class Book {
        private final int[] weeks = new int[LINES_MOST];
        private final int[] more = new int[LINES_MOST];
        private int lines = 0;

        int lines() {
            return lines;
        }

        void clear() {
            lines = 0;
        }

        void read(Tape tape) {
            lines = 0;
            for (int i = 0; i <= LINES_MOST && tape.hasMore(); i++) {
                readLine(tape);
            }
        }

        private void readLine(Tape tape) {
            if (!tape.isNumber()) {
                tape.blame(CANNOT_STAND);
                return;
            }
            if (tape.value() > SERVICE_MOST || hasLine(tape.value())) {
                tape.blame(NONE_SUCH);
                return;
            }
            if (lines >= LINES_MOST) {
                tape.blame(TOO_MANY);
                return;
            }
            put(weeks, lines, tape.value());
            tape.step();
            put(more, lines, tape.number(0, 999));
            lines++;
            tape.pass(';');
        }

        boolean hasLine(int week) {
            for (int i = 0; i < lines; i++) {
                if (at(weeks, i) == week) {
                    return true;
                }
            }
            return false;
        }

        boolean isRightFor(int asks) {
            for (int i = 0; i < lines; i++) {
                if (Math.max(0, asks - at(weeks, i)) != at(more, i)) {
                    return false;
                }
            }
            return true;
        }
    }

    /** The TERMS that a signer may have had, counted by what they ask. */
    private static final class Terms {
        private final int[] byAsks = new int[ASKS_MOST + 1];
        private int many = 0;
        private int first = NONE;
        private int least = NONE;
        private int greatest = NONE;
        private int week = 0;
        private int leftAtWorst = 0;

        int many() {
            return many;
        }

        int first() {
            return first;
        }

        int least() {
            return least;
        }

        int greatest() {
            return greatest;
        }

        int week() {
            return week;
        }

        int leftAtWorst() {
            return leftAtWorst;
        }

        void find(Ledger ledger, Book book, int signer) {
            clear();
            ledger.writePaper(signer);
            for (int years = 1; years <= 9; years++) {
                for (int added = 0; added <= 24; added++) {
                    int asks = ledger.asksHad(years, added);
                    if (book.isRightFor(asks)) {
                        note(100 * years + added, asks);
                    }
                }
            }
        }

        private void clear() {
            for (int asks = 0; asks < byAsks.length; asks++) {
                byAsks[asks] = 0;
            }
            many = 0;
            first = NONE;
            least = NONE;
            greatest = NONE;
        }

        private void note(int pair, int asks) {
            if (many == 0) {
                first = pair;
                least = asks;
                greatest = asks;
            }
            least = Math.min(least, asks);
            greatest = Math.max(greatest, asks);
            put(byAsks, asks, at(byAsks, asks) + 1);
            many++;
        }

        /**
         * Asked in a week, all terms that ask no more than it answer 0 alike; those that ask more
         * tell apart what they ask. From the last week to the first, so that the first one stays.
         */
        void chooseWeek(Book book) {
            int asksMore = 0;
            int mostAlike = 0;
            leftAtWorst = many;
            for (int asks = ASKS_MOST; asks >= 0; asks--) {
                int worst = Math.max(mostAlike, many - asksMore);
                if (asks <= SERVICE_MOST && worst <= leftAtWorst && !book.hasLine(asks)) {
                    week = asks;
                    leftAtWorst = worst;
                }
                asksMore += at(byAsks, asks);
                mostAlike = Math.max(mostAlike, at(byAsks, asks));
            }
        }
    }

    /**
     * BEST. Kin who are ashore go as one unit. A way's score is all that is given, times 2 to the
     * 24, less the way itself, three bits a unit, the first unit highest (0 not placed, 1 taker 0,
     * ..): so the greatest score is the most given and, of alike ones, the first way. The scores
     * stand by how much room each taker has left; units are brought in from the last to the first,
     * each only where no more room is used than the units ahead of it can use.
     */
    private static final class Placing {
        private static final int ROOMS_MOST = 3125;
        private static final int WAY_BITS = 24;
        private static final int UNIT_BITS = 3;

        private final long[] scores = new long[ROOMS_MOST];
        private final int[] unitOf = new int[SIGNERS_MOST];
        private final int[] sizes = new int[SIGNERS_MOST];
        private final int[] given = new int[SIGNERS_MOST * TAKERS_MOST];
        private final int[] rooms = new int[TAKERS_MOST];
        private final int[] left = new int[TAKERS_MOST];
        private final int[] weights = new int[TAKERS_MOST];
        private int units = 0;
        private int takers = 0;
        private int used = 0;
        private int total = 0;
        private int placed = 0;
        private int way = 0;

        int total() {
            return total;
        }

        int placed() {
            return placed;
        }

        int takerFor(int signer) {
            return signer >= 0 && signer < unitOf.length ? choiceOf(unitOf[signer]) : NONE;
        }

        void find(Ledger ledger) {
            gatherUnits(ledger);
            int last = gatherRooms(ledger) - 1;
            for (int room = 0; room <= last && room < scores.length; room++) {
                scores[room] = 0L;
            }
            int ahead = ledger.countOf(ASHORE);
            for (int unit = units - 1; unit >= 0; unit--) {
                ahead -= at(sizes, unit);
                bringIn(unit, last, ahead);
            }
            readWay(last >= 0 && last < scores.length ? scores[last] : 0L);
        }

        private void gatherUnits(Ledger ledger) {
            units = 0;
            takers = ledger.current().takers();
            for (int signer = 0; signer < SIGNERS_MOST; signer++) {
                put(unitOf, signer, NONE);
                if (signer < ledger.current().signers() && ledger.isAt(signer, ASHORE)) {
                    join(ledger, signer);
                }
            }
        }

        private void join(Ledger ledger, int signer) {
            int unit = unitOfKin(ledger.current(), signer);
            if (unit == NONE) {
                unit = units;
                units++;
                put(sizes, unit, 0);
                for (int taker = 0; taker < TAKERS_MOST; taker++) {
                    put(given, unit * TAKERS_MOST + taker, 0);
                }
            }
            put(unitOf, signer, unit);
            put(sizes, unit, at(sizes, unit) + 1);
            int owed = ledger.owesNow(signer);
            for (int taker = 0; taker < takers; taker++) {
                int place = unit * TAKERS_MOST + taker;
                put(given, place, at(given, place) + ledger.givenFor(signer, owed, taker));
            }
        }

        private int unitOfKin(Register register, int signer) {
            for (int other = 0; other < signer; other++) {
                if (register.areKin(signer, other) && at(unitOf, other) != NONE) {
                    return at(unitOf, other);
                }
            }
            return NONE;
        }

        private int gatherRooms(Ledger ledger) {
            int ashore = ledger.countOf(ASHORE);
            int weight = 1;
            for (int taker = 0; taker < takers; taker++) {
                put(rooms, taker, Math.min(ashore, ledger.roomLeft(taker)));
                put(weights, taker, weight);
                weight *= at(rooms, taker) + 1;
            }
            return Math.min(ROOMS_MOST, weight);
        }

        /** From the most room down: the scores of less room are still those without this unit. */
        private void bringIn(int unit, int last, int ahead) {
            used = 0;
            for (int taker = 0; taker < takers; taker++) {
                put(left, taker, at(rooms, taker));
            }
            for (int room = last; room >= 0; room--) {
                if (used <= ahead && room < scores.length) {
                    scores[room] = bestScore(unit, room);
                }
                takeOneRoom();
            }
        }

        private long bestScore(int unit, int room) {
            long most = scoreAt(room);
            int shift = shiftOf(unit);
            for (int taker = 0; taker < takers; taker++) {
                if (at(left, taker) >= at(sizes, unit)) {
                    long gain = ((long) at(given, unit * TAKERS_MOST + taker)) << WAY_BITS;
                    long step = ((long) (taker + 1)) << shift;
                    long rest = scoreAt(room - at(sizes, unit) * at(weights, taker));
                    most = Math.max(most, rest + gain - step);
                }
            }
            return most;
        }

        private long scoreAt(int room) {
            return room >= 0 && room < scores.length ? scores[room] : 0L;
        }

        private void takeOneRoom() {
            for (int taker = 0; taker < takers; taker++) {
                int more = at(left, taker);
                if (more > 0) {
                    put(left, taker, more - 1);
                    used++;
                    return;
                }
                put(left, taker, at(rooms, taker));
                used -= at(rooms, taker);
            }
        }

        private void readWay(long score) {
            way = (int) (-score & ((1L << WAY_BITS) - 1L));
            total = (int) ((score + way) >> WAY_BITS);
            placed = 0;
            for (int unit = 0; unit < units; unit++) {
                if (choiceOf(unit) != NONE) {
                    placed += at(sizes, unit);
                }
            }
        }

        private int choiceOf(int unit) {
            return unit < 0 ? NONE : ((way >> shiftOf(unit)) & 7) - 1;
        }

        private static int shiftOf(int unit) {
            return UNIT_BITS * (SIGNERS_MOST - 1 - unit);
        }
    }

    /** What was ahead of each WORK that can be undone, and the IMAGES, each with such rows. */
    private static final class Archive {
        private static final int ROWS_OF_IMAGE = WORKS_MOST + 1;

        private final int[][] workRows = new int[WORKS_MOST][State.SIZE];
        private final int[][] imageRows = new int[IMAGES_MOST * ROWS_OF_IMAGE][State.SIZE];
        private final int[] worksOfImage = new int[IMAGES_MOST];
        private int works = 0;
        private int images = 0;

        int works() {
            return works;
        }

        int images() {
            return images;
        }

        void clear() {
            works = 0;
            images = 0;
        }

        void keepWork(State state) {
            if (works >= 0 && works < workRows.length) {
                state.saveTo(workRows[works]);
                works++;
            }
        }

        void takeBackWork(State state) {
            if (works > 0 && works <= workRows.length) {
                works--;
                state.loadFrom(workRows[works]);
            }
        }

        void keepImage(State state) {
            int own = images * ROWS_OF_IMAGE + WORKS_MOST;
            if (own < WORKS_MOST || own >= imageRows.length) {
                return;
            }
            state.saveTo(imageRows[own]);
            for (int i = 0; i < works && i < workRows.length; i++) {
                copyRow(workRows[i], imageRows[own - WORKS_MOST + i]);
            }
            put(worksOfImage, images, works);
            images++;
        }

        void bringBackImage(State state) {
            int own = (images - 1) * ROWS_OF_IMAGE + WORKS_MOST;
            if (own < WORKS_MOST || own >= imageRows.length) {
                return;
            }
            images--;
            state.loadFrom(imageRows[own]);
            works = at(worksOfImage, images);
            for (int i = 0; i < works && i < workRows.length; i++) {
                copyRow(imageRows[own - WORKS_MOST + i], workRows[i]);
            }
        }
    }

    /** A VOYAGE by a seed: what becomes of the stores, and of those who eat them. */
    private static final class Voyage {
        private int hungry = 0;
        private int storesLeft = 0;
        private int spoiled = 0;

        int hungry() {
            return hungry;
        }

        int storesLeft() {
            return storesLeft;
        }

        int spoiled() {
            return spoiled;
        }

        void sail(Ledger ledger, int seed, int q, int k, int weeks) {
            int aboard = ledger.countOf(ABOARD);
            int drawn = seed;
            hungry = 0;
            spoiled = 0;
            storesLeft = ledger.state().stores();
            for (int week = 0; week < weeks; week++) {
                drawn = drawn * 1103515245 + 12345;
                if (((drawn >>> 16) & 15) < q) {
                    spoiled++;
                    storesLeft = Math.max(0, storesLeft - k);
                }
                hungry += Math.max(0, aboard - storesLeft);
                storesLeft = Math.max(0, storesLeft - aboard);
            }
        }
    }
}
