import java.math.BigInteger;
import java.util.ArrayDeque;
import java.util.ArrayList;
import java.util.HashMap;
import java.util.HashSet;
import java.util.List;
import java.util.Map;
import java.util.NoSuchElementException;
import java.util.Set;
import java.util.regex.Matcher;
import java.util.regex.Pattern;

/**
 * The document once more, written for plainness alone: weeks go by one by one, ways are tried one
 * by one, fractions are BigIntegers. ModelTest holds PassagePapers against it.
 */
final class Model {
    private static final int NONE = -1;

    private static final class Fault extends RuntimeException {
        final int code;
        final int place;

        Fault(int code, int place) {
            super(null, null, false, false);
            this.code = code;
            this.place = place;
        }
    }

    private interface Value {
        int of(Map<String, Integer> paper);
    }

    private static final class Person {
        int years, trade, kindred, where, boundTo = NONE, service, added, hungry, lost, coins;
        int placed = NONE;

        Person copy() {
            Person p = new Person();
            p.years = years; p.trade = trade; p.kindred = kindred; p.where = where;
            p.boundTo = boundTo; p.service = service; p.added = added; p.hungry = hungry;
            p.lost = lost; p.coins = coins; p.placed = placed;
            return p;
        }
    }

    private static final class World {
        int week, stores;
        List<Person> people = new ArrayList<>();

        World copy() {
            World w = new World();
            w.week = week;
            w.stores = stores;
            for (Person p : people) w.people.add(p.copy());
            return w;
        }

        int in(int where) {
            int n = 0;
            for (Person p : people) if (p.where == where) n++;
            return n;
        }

        int hungers() {
            int n = 0;
            for (Person p : people) n += p.hungry;
            return n;
        }

        int services() {
            int n = 0;
            for (Person p : people) n += p.service;
            return n;
        }
    }

    private static final class Image {
        World world;
        ArrayDeque<World> works = new ArrayDeque<>();
    }

    // ---- tokens

    private static final class Token {
        String text;
        int place;
    }

    private static final class Reader {
        final List<Token> tokens = new ArrayList<>();
        int next = 0;

        Reader(String text) {
            Matcher m = Pattern.compile(" *([0-9]+|[a-z]+|[^ ])", Pattern.DOTALL).matcher(text);
            int from = 0;
            while (m.find(from)) {
                Token t = new Token();
                t.text = m.group(1);
                t.place = m.start(1);
                tokens.add(t);
                from = m.end();
            }
            Token end = new Token();
            end.text = "";
            end.place = text.length();
            tokens.add(end);
        }

        String peek() { return tokens.get(next).text; }
        int place() { return tokens.get(next).place; }
        boolean atEnd() { return next == tokens.size() - 1; }

        void expect(String sign) {
            if (!peek().equals(sign)) throw new Fault(1, place());
            next++;
        }

        boolean isNumber() { return peek().matches("[0-9]+"); }

        int number(int least, int most) {
            if (!isNumber()) throw new Fault(1, place());
            BigInteger v = new BigInteger(peek());
            if (v.compareTo(BigInteger.valueOf(least)) < 0 || v.compareTo(BigInteger.valueOf(most)) > 0) {
                throw new Fault(2, place());
            }
            next++;
            return v.intValue();
        }
    }

    // ---- the object

    private final StringBuilder tape = new StringBuilder();
    private int faultPlace = NONE;
    private World world = new World();
    private List<int[]> takers = new ArrayList<>();
    private int voyageWeeks = 8;
    private final Value[] laws = new Value[2];
    private List<int[]> lines = new ArrayList<>();
    private ArrayDeque<World> works = new ArrayDeque<>();
    private final ArrayDeque<Image> images = new ArrayDeque<>();
    private int refused, noSuch, illegal, done, begun, toldRefused;

    Model() {
        world.stores = 60;
        plainLaws();
    }

    private void plainLaws() {
        laws[0] = p -> p.get("years") * 52 + p.get("added") * 4;
        laws[1] = laws[0];
    }

    private void need(boolean b) {
        if (!b) {
            illegal++;
            throw new IllegalArgumentException();
        }
    }

    private Person person(int s) {
        if (s < 0 || s >= world.people.size()) {
            noSuch++;
            throw new NoSuchElementException();
        }
        return world.people.get(s);
    }

    private int[] takerAt(int t) {
        if (t < 0 || t >= takers.size()) {
            noSuch++;
            throw new NoSuchElementException();
        }
        return takers.get(t);
    }

    private static boolean in(int x, int a, int b) { return a <= x && x <= b; }

    public int feed(int a, int b, int c, int d, int e) {
        if (tape.length() > 580) return NONE;
        for (int x : new int[] {a, b, c, d, e}) {
            for (int i = 3; i >= 0; i--) tape.append((char) (x >> 8 * i & 255));
        }
        return tape.length();
    }

    private String takeText(int n) {
        String t = tape.substring(0, n);
        tape.setLength(0);
        faultPlace = NONE;
        return t;
    }

    private int faulty(Fault f) {
        faultPlace = f.place;
        return f.code - 10;
    }

    public int register(int n) {
        need(in(n, 0, tape.length()));
        World w = new World();
        w.stores = 60;
        List<int[]> ts = new ArrayList<>();
        int voyage = 8;
        try {
            Reader r = new Reader(takeText(n));
            for (int clauses = 0; !r.atEnd(); clauses++) {
                String word = r.peek();
                if (!Set.of("signer", "taker", "kinsman", "stores", "voyage").contains(word)) {
                    throw new Fault(1, r.place());
                }
                if (clauses == 60 || word.equals("signer") && w.people.size() == 8
                        || word.equals("taker") && ts.size() == 5) throw new Fault(3, r.place());
                r.next++;
                if (word.equals("signer")) {
                    Person p = new Person();
                    p.years = r.number(1, 9);
                    p.trade = r.number(0, 5);
                    p.kindred = r.number(0, 4);
                    w.people.add(p);
                } else if (word.equals("taker")) {
                    ts.add(new int[] {r.number(0, 5), r.number(1, 40), r.number(1, 4)});
                } else if (word.equals("kinsman")) {
                    int s = r.number(0, w.people.size() - 1);
                    w.people.get(s).coins = r.number(0, 999);
                } else if (word.equals("stores")) {
                    w.stores = r.number(0, 400);
                } else {
                    voyage = r.number(0, 20);
                }
                r.expect(";");
            }
        } catch (Fault f) {
            return faulty(f);
        }
        world = w;
        takers = ts;
        voyageWeeks = voyage;
        plainLaws();
        lines = new ArrayList<>();
        works = new ArrayDeque<>();
        images.clear();
        toldRefused = 0;
        return w.people.size();
    }

    public int law(int which, int n) {
        need(in(which, 0, 1));
        need(in(n, 0, Math.min(150, tape.length())));
        try {
            Reader r = new Reader(takeText(n));
            Value v = sum(r, 0);
            if (!r.atEnd()) throw new Fault(1, r.place());
            laws[which] = v;
            return 1;
        } catch (Fault f) {
            return faulty(f);
        }
    }

    private Value sum(Reader r, int open) {
        Value left = product(r, open);
        while (r.peek().equals("+") || r.peek().equals("-")) {
            boolean plus = r.peek().equals("+");
            r.next++;
            Value a = left;
            Value b = product(r, open);
            left = plus ? p -> a.of(p) + b.of(p) : p -> a.of(p) - b.of(p);
        }
        return left;
    }

    private Value product(Reader r, int open) {
        Value left = unit(r, open);
        while (r.peek().equals("*") || r.peek().equals("/")) {
            boolean times = r.peek().equals("*");
            r.next++;
            Value a = left;
            Value b = unit(r, open);
            left = times ? p -> a.of(p) * b.of(p) : p -> b.of(p) == 0 ? 0 : a.of(p) / b.of(p);
        }
        return left;
    }

    private static final Set<String> NAMES =
            Set.of("years", "added", "trade", "hungry", "kin", "lost", "placed", "week");

    private Value unit(Reader r, int open) {
        String word = r.peek();
        int place = r.place();
        if (r.isNumber()) {
            int v = r.number(0, 999);
            return p -> v;
        }
        if (NAMES.contains(word)) {
            r.next++;
            return p -> p.get(word);
        }
        if (!Set.of("(", "least", "most").contains(word)) throw new Fault(1, place);
        if (open == 6) throw new Fault(3, place);
        r.next++;
        if (word.equals("(")) {
            Value v = sum(r, open + 1);
            r.expect(")");
            return v;
        }
        r.expect("[");
        Value a = sum(r, open + 1);
        r.expect(",");
        Value b = sum(r, open + 1);
        r.expect("]");
        return word.equals("least") ? p -> Math.min(a.of(p), b.of(p)) : p -> Math.max(a.of(p), b.of(p));
    }

    private static final class Step {
        String word;
        int a, b;
        List<Step> inner;
    }

    public int work(int n) {
        need(in(n, 0, Math.min(150, tape.length())));
        if (works.size() == 16) {
            takeText(0);
            return -20;
        }
        List<Step> steps;
        try {
            Reader r = new Reader(takeText(n));
            steps = steps(r, 0);
            if (!r.atEnd()) throw new Fault(1, r.place());
        } catch (Fault f) {
            return faulty(f);
        }
        works.addLast(world.copy());
        done = 0;
        refused = 0;
        begun = 0;
        run(steps);
        toldRefused = refused;
        return done;
    }

    private List<Step> steps(Reader r, int open) {
        List<Step> list = new ArrayList<>();
        while (!r.atEnd() && !(open > 0 && r.peek().equals("]"))) {
            Step s = new Step();
            s.word = r.peek();
            int place = r.place();
            if (s.word.equals("again")) {
                if (open == 6) throw new Fault(3, place);
                r.next++;
                s.a = r.number(0, 60);
                r.expect("[");
                s.inner = steps(r, open + 1);
                r.expect("]");
            } else if (s.word.equals("land") || s.word.equals("week")) {
                r.next++;
            } else if (Set.of("place", "add", "strike", "lose", "copy", "pay").contains(s.word)) {
                r.next++;
                s.a = r.number(0, world.people.size() - 1);
                if (s.word.equals("place")) s.b = r.number(0, takers.size() - 1);
                if (s.word.equals("add")) s.b = r.number(1, 24);
            } else {
                throw new Fault(1, place);
            }
            r.expect(";");
            list.add(s);
        }
        return list;
    }

    private void run(List<Step> steps) {
        for (Step s : steps) {
            if (begun == 200) return;
            begun++;
            if (s.inner != null) {
                for (int i = 0; i < s.a; i++) run(s.inner);
            } else if (perform(s)) {
                done++;
            } else {
                refused++;
            }
        }
    }

    private boolean perform(Step s) {
        Person p = s.word.equals("land") || s.word.equals("week") ? null : world.people.get(s.a);
        switch (s.word) {
            case "land":
                if (world.in(0) == 0 || world.week < voyageWeeks) return false;
                for (Person q : world.people) if (q.where == 0) q.where = 1;
                return true;
            case "place":
                if (p.where != 1 || bound(world, s.b) >= takers.get(s.b)[2]) return false;
                p.where = 2;
                p.boundTo = s.b;
                p.placed = world.week;
                return true;
            case "add":
                if (p.where != 2 || p.added == 99) return false;
                p.added = Math.min(99, p.added + s.b);
                return true;
            case "strike":
                if (p.added == 0) return false;
                p.added = 0;
                return true;
            case "lose":
                if (p.lost == 1 || p.where == 3) return false;
                p.lost = 1;
                return true;
            case "copy":
                if (p.lost == 0 || p.where == 3) return false;
                p.lost = 0;
                return true;
            case "pay":
                if (p.where == 0 || p.where == 3 || p.coins < owed(world, p, 0) / 4) return false;
                p.coins -= owed(world, p, 0) / 4;
                p.where = 3;
                p.boundTo = NONE;
                return true;
            default:
                if (world.week == 900) return false;
                passWeek(world, 0);
                return true;
        }
    }

    private void passWeek(World w, int which) {
        for (Person p : w.people) {
            if (p.where == 0) {
                if (w.stores > 0) w.stores--; else p.hungry++;
            }
            if (p.where == 2) p.service++;
        }
        w.week++;
        for (Person p : w.people) {
            if (p.where == 2 && owed(w, p, which) == 0) {
                p.where = 3;
                p.boundTo = NONE;
            }
        }
    }

    private int bound(World w, int taker) {
        int n = 0;
        for (Person p : w.people) if (p.where == 2 && p.boundTo == taker) n++;
        return n;
    }

    private Map<String, Integer> paper(World w, Person p) {
        Map<String, Integer> m = new HashMap<>();
        int kin = 0;
        for (Person q : w.people) if (q != p && q.kindred != 0 && q.kindred == p.kindred) kin++;
        m.put("years", p.years);
        m.put("added", p.added);
        m.put("trade", p.trade);
        m.put("hungry", p.hungry);
        m.put("kin", kin);
        m.put("lost", p.lost);
        m.put("placed", p.placed == NONE ? w.week : p.placed);
        m.put("week", w.week);
        return m;
    }

    private static int clamp(int x) { return x < 0 ? 0 : x > 999 ? 999 : x; }

    private int asked(World w, Person p, int which) { return clamp(laws[which].of(paper(w, p))); }

    private int owed(World w, Person p, int which) {
        return p.where == 3 ? 0 : Math.max(0, asked(w, p, which) - p.service);
    }

    public int book(int n) {
        need(in(n, 0, Math.min(100, tape.length())));
        List<int[]> found = new ArrayList<>();
        Set<Integer> seen = new HashSet<>();
        try {
            Reader r = new Reader(takeText(n));
            while (!r.atEnd()) {
                int place = r.place();
                int w = r.number(0, 499);
                if (!seen.add(w)) throw new Fault(2, place);
                if (found.size() == 8) throw new Fault(3, place);
                found.add(new int[] {w, r.number(0, 999)});
                r.expect(";");
            }
        } catch (Fault f) {
            return faulty(f);
        }
        lines = found;
        return lines.size();
    }

    public int fault() { return faultPlace; }

    public int undo() {
        if (works.isEmpty()) return -1;
        world = works.removeLast();
        toldRefused = 0;
        return works.size();
    }

    public int told(int what) {
        need(in(what, 0, 10));
        int[] all = {world.people.size(), takers.size(), world.week, world.stores, world.in(0),
            world.in(1), world.in(2), world.in(3), lines.size(), toldRefused, voyageWeeks};
        return all[what];
    }

    public int signer(int signer, int what) {
        Person p = person(signer);
        need(in(what, 0, 9));
        return new int[] {p.years, p.trade, p.kindred, p.where, p.boundTo, p.service, p.added,
            p.hungry, p.lost, p.coins}[what];
    }

    public int taker(int taker, int what) {
        int[] t = takerAt(taker);
        need(in(what, 0, 3));
        return what == 3 ? bound(world, taker) : t[what];
    }

    public int asks(int signer, int which) {
        Person p = person(signer);
        need(in(which, 0, 1));
        return asked(world, p, which);
    }

    public int owes(int signer) { return owed(world, person(signer), 0); }

    public int would(int years, int added, int trade, int hungry, int lost, int week) {
        need(in(years, 1, 9) && in(added, 0, 99) && in(trade, 0, 5) && in(hungry, 0, 99)
                && in(lost, 0, 1) && in(week, 0, 900));
        return clamp(laws[0].of(Map.of("years", years, "added", added, "trade", trade,
                "hungry", hungry, "lost", lost, "week", week, "placed", 0, "kin", 0)));
    }

    public int held() {
        int bits = 0;
        for (int i = 0; i < world.people.size(); i++) {
            Person p = world.people.get(i);
            if (p.where == 2 && p.service >= asked(world, p, 1)) bits += 1 << i;
        }
        return bits;
    }

    private int freeBy(int signer, int which) {
        if (person(signer).where != 2) return NONE;
        World w = world.copy();
        for (int i = 1; i <= 600; i++) {
            passWeek(w, which);
            if (w.people.get(signer).where == 3) return i;
        }
        return NONE;
    }

    public int freeIn(int signer) { return freeBy(signer, 0); }

    public int otherwise(int signer) { return freeBy(signer, 1); }

    public int ahead(int n, int what) {
        need(in(n, 0, 600) && in(what, 0, 2));
        World w = world.copy();
        for (int i = 0; i < n; i++) passWeek(w, 0);
        return what == 0 ? w.in(3) : what == 1 ? w.services() - world.services()
                : w.hungers() - world.hungers();
    }

    private int given(int taker, Person p) {
        int[] t = takers.get(taker);
        int whole = t[1] * owed(world, p, 0) / 52;
        return t[0] == p.trade ? whole : whole / 2;
    }

    public int gives(int taker, int signer) {
        takerAt(taker);
        return given(taker, person(signer));
    }

    private int[] bestWay;
    private int bestSum;

    private void findBest() {
        bestWay = new int[world.people.size()];
        bestSum = -1;
        tryWays(new int[world.people.size()], 0, 0, new int[takers.size()]);
    }

    private void tryWays(int[] way, int i, int sum, int[] used) {
        if (i == way.length) {
            if (sum > bestSum) {
                bestSum = sum;
                bestWay = way.clone();
            }
            return;
        }
        Person p = world.people.get(i);
        for (int t = NONE; t < takers.size(); t++) {
            if (t != NONE && (p.where != 1 || bound(world, t) + used[t] >= takers.get(t)[2])) continue;
            boolean fits = true;
            for (int j = 0; j < i; j++) {
                Person q = world.people.get(j);
                if (p.where == 1 && q.where == 1 && p.kindred != 0 && p.kindred == q.kindred
                        && way[j] != t) fits = false;
            }
            if (!fits) continue;
            way[i] = t;
            if (t == NONE) {
                tryWays(way, i + 1, sum, used);
            } else {
                used[t]++;
                tryWays(way, i + 1, sum + given(t, p), used);
                used[t]--;
            }
        }
    }

    public int best(int what) {
        need(in(what, 0, 1));
        findBest();
        if (what == 0) return bestSum;
        int n = 0;
        for (int t : bestWay) if (t != NONE) n++;
        return n;
    }

    public int bestFor(int signer) {
        person(signer);
        findBest();
        return bestWay[signer];
    }

    public int parted() {
        int n = 0;
        for (int i = 0; i < world.people.size(); i++) {
            for (int j = 0; j < i; j++) {
                Person p = world.people.get(i);
                Person q = world.people.get(j);
                if (p.kindred != 0 && p.kindred == q.kindred && p.where == 2 && q.where == 2
                        && p.boundTo != q.boundTo) n++;
            }
        }
        return n;
    }

    public int kin(int signer) {
        Person p = person(signer);
        int bits = 0;
        for (int i = 0; i < world.people.size(); i++) {
            if (i != signer && p.kindred != 0 && world.people.get(i).kindred == p.kindred) bits |= 1 << i;
        }
        return bits;
    }

    public int fare(int signer) {
        Person p = person(signer);
        return p.where == 0 ? NONE : owed(world, p, 0) / 4;
    }

    public boolean canPay(int signer) {
        Person p = person(signer);
        return (p.where == 1 || p.where == 2) && p.coins >= owed(world, p, 0) / 4;
    }

    public int enough(int n) {
        need(in(n, 0, 99));
        for (int stores = 0; ; stores++) {
            World w = world.copy();
            w.stores = stores;
            for (int i = 0; i < n; i++) passWeek(w, 0);
            if (w.hungers() == world.hungers()) return stores;
        }
    }

    public int level(int n) {
        need(in(n, 0, 99));
        if (world.in(0) == 0) return NONE;
        int bound = 0;
        while (bound < n && (bound + 1) * world.in(0) <= world.stores) bound++;
        return bound;
    }

    public int hunger() {
        World w = world.copy();
        for (int i = 0; i <= 99; i++) {
            passWeek(w, 0);
            if (w.hungers() > world.hungers()) return i;
        }
        return NONE;
    }

    private List<int[]> foundTerms(int signer) {
        List<int[]> list = new ArrayList<>();
        for (int y = 1; y <= 9; y++) {
            for (int m = 0; m <= 24; m++) {
                Map<String, Integer> paper = paper(world, world.people.get(signer));
                paper.put("years", y);
                paper.put("added", m);
                int asks = clamp(laws[0].of(paper));
                boolean right = true;
                for (int[] l : lines) if (Math.max(0, asks - l[0]) != l[1]) right = false;
                if (right) list.add(new int[] {100 * y + m, asks});
            }
        }
        return list;
    }

    public int terms(int signer, int what) {
        person(signer);
        need(in(what, 0, 3));
        List<int[]> list = foundTerms(signer);
        if (what == 0) return list.size();
        if (list.isEmpty()) return NONE;
        if (what == 1) return list.get(0)[0];
        int least = 999;
        int most = 0;
        for (int[] t : list) {
            least = Math.min(least, t[1]);
            most = Math.max(most, t[1]);
        }
        return what == 2 ? least : most;
    }

    public int ask(int signer, int what) {
        person(signer);
        need(in(what, 0, 1));
        List<int[]> list = foundTerms(signer);
        int bestWeek = NONE;
        int bestWorst = Integer.MAX_VALUE;
        for (int w = 0; w <= 499; w++) {
            boolean inLine = false;
            for (int[] l : lines) if (l[0] == w) inLine = true;
            if (inLine) continue;
            int[] said = new int[1000];
            int worst = 0;
            for (int[] t : list) worst = Math.max(worst, ++said[Math.max(0, t[1] - w)]);
            if (worst < bestWorst) {
                bestWorst = worst;
                bestWeek = w;
            }
        }
        return what == 0 ? bestWeek : bestWorst;
    }

    /** All 2 to the n ways in which n witnesses can speak, each with its weight. */
    private static BigInteger[] majority(int n, int q) {
        BigInteger above = BigInteger.ZERO;
        for (int who = 0; who < 1 << n; who++) {
            if (Integer.bitCount(who) * 2 > n) {
                above = above.add(BigInteger.valueOf(q).pow(Integer.bitCount(who))
                        .multiply(BigInteger.valueOf(16 - q).pow(n - Integer.bitCount(who))));
            }
        }
        BigInteger below = BigInteger.valueOf(16).pow(n);
        BigInteger common = above.gcd(below);
        return new BigInteger[] {above.divide(common), below.divide(common)};
    }

    public long court(int n, int q, int part) {
        need(in(n, 1, 9) && n % 2 == 1 && in(q, 0, 16) && in(part, 0, 1));
        return majority(n, q)[part].longValueExact();
    }

    public int witnesses(int q, int c) {
        need(in(q, 0, 16) && in(c, 0, 16));
        for (int n = 1; n <= 9; n += 2) {
            BigInteger[] m = majority(n, q);
            if (m[0].multiply(BigInteger.valueOf(16)).compareTo(m[1].multiply(BigInteger.valueOf(c))) >= 0) {
                return n;
            }
        }
        return NONE;
    }

    public int loan(int f, int w, int r) {
        need(in(f, 0, 9999) && in(w, 0, 999) && in(r, 0, 100));
        BigInteger owed = BigInteger.valueOf(f);
        for (int weeks = 0; weeks <= 600; weeks++) {
            if (owed.signum() <= 0) return weeks;
            owed = owed.add(owed.multiply(BigInteger.valueOf(r)).divide(BigInteger.valueOf(1000)));
            owed = owed.subtract(BigInteger.valueOf(w));
        }
        return NONE;
    }

    public int land(int taker, int n) {
        takerAt(taker);
        need(in(n, 0, 99));
        int[] fields = new int[takers.size()];
        for (int i = 0; i < n; i++) {
            int next = NONE;
            double most = 0;
            for (int t = 0; t < fields.length; t++) {
                double quotient = (double) bound(world, t) / (1 + fields[t]);
                if (quotient > most + 1e-12) {
                    most = quotient;
                    next = t;
                }
            }
            if (next != NONE) fields[next]++;
        }
        return fields[taker];
    }

    private static int gain(int own, int other, int v) {
        return own < other ? 0 : own == other ? (v - own) / 2 : v - own;
    }

    public int bids(int n, int v, int w, int what) {
        need(in(n, 0, 20) && in(v, 0, 99) && in(w, 0, 99) && in(what, 0, 2));
        List<int[]> rests = new ArrayList<>();
        for (int a = 0; a <= n; a++) {
            for (int b = 0; b <= n; b++) {
                boolean rest = true;
                for (int c = 0; c <= n; c++) {
                    if (gain(c, b, v) > gain(a, b, v) || gain(c, a, w) > gain(b, a, w)) rest = false;
                }
                if (rest) rests.add(new int[] {100 * a + b, gain(a, b, v) + gain(b, a, w)});
            }
        }
        if (what == 0) return rests.size();
        if (rests.isEmpty()) return what == 1 ? NONE : 0;
        return rests.get(0)[what - 1];
    }

    public int has(int own, int other, int v) {
        need(in(own, 0, 99) && in(other, 0, 99) && in(v, 0, 99));
        return gain(own, other, v);
    }

    private int[] sail(long seed, int q, int k, int weeks) {
        World w = world.copy();
        int below = 0;
        long drawn = seed & 0xffffffffL;
        for (int i = 0; i < weeks; i++) {
            drawn = (drawn * 1103515245L + 12345L) % (1L << 32);
            if (drawn / 65536 % 32768 % 16 < q) {
                below++;
                w.stores -= Math.min(k, w.stores);
            }
            passWeek(w, 0);
        }
        return new int[] {w.hungers() - world.hungers(), w.stores, below, w.in(3)};
    }

    public int voyage(int seed, int q, int k, int weeks, int what) {
        need(in(q, 0, 16) && in(k, 0, 40) && in(weeks, 1, 99) && in(what, 0, 3));
        return sail(seed, q, k, weeks)[what];
    }

    public int span(int seed, int many, int q, int k, int weeks, int what) {
        need(in(many, 1, 20) && in(q, 0, 16) && in(k, 0, 40) && in(weeks, 1, 99) && in(what, 0, 2));
        int least = Integer.MAX_VALUE;
        int most = 0;
        int nobody = 0;
        for (int i = 0; i < many; i++) {
            int h = sail(seed + (long) i, q, k, weeks)[0];
            least = Math.min(least, h);
            most = Math.max(most, h);
            if (h == 0) nobody++;
        }
        return new int[] {least, most, nobody}[what];
    }

    public int image() {
        if (images.size() == 3) return -1;
        Image i = new Image();
        i.world = world.copy();
        for (World w : works) i.works.addLast(w.copy());
        images.addLast(i);
        return images.size();
    }

    public int restore() {
        if (images.isEmpty()) return -1;
        Image i = images.removeLast();
        world = i.world;
        works = i.works;
        toldRefused = 0;
        return images.size();
    }

    public int status(int what) { return what == 0 ? noSuch : what == 1 ? illegal : NONE; }

    public int count(int what) {
        return what == 0 ? images.size() : what == 1 ? tape.length() : what == 2 ? works.size() : NONE;
    }
}
