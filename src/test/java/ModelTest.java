import java.lang.reflect.InvocationTargetException;
import java.lang.reflect.Method;
import java.lang.reflect.Modifier;
import java.util.ArrayList;
import java.util.Arrays;
import java.util.Comparator;
import java.util.List;
import java.util.Random;

/** Long runs of calls, the same on PassagePapers and on Model: every answer must be alike. */
public final class ModelTest {
    private static final int RUNS = 1500;
    private static final int CALLS = 500;

    private final Random random;
    private final List<Method> methods;
    private final PassagePapers papers = new PassagePapers();
    private final Model model = new Model();
    private final List<String> story = new ArrayList<>();
    private int calls = 0;
    private boolean broken = false;

    private ModelTest(long seed, List<Method> methods) {
        this.random = new Random(seed);
        this.methods = methods;
    }

    public static void main(String[] args) throws Exception {
        List<Method> methods = new ArrayList<>();
        for (Method m : PassagePapers.class.getDeclaredMethods()) {
            if (Modifier.isPublic(m.getModifiers())) methods.add(m);
        }
        methods.sort(Comparator.comparing(Method::getName));
        int wrong = 0;
        for (int i = 0; i < RUNS && wrong < 3; i++) {
            ModelTest run = new ModelTest(i, methods);
            run.go();
            if (run.broken) wrong++;
        }
        if (wrong > 0) System.exit(1);
    }

    private void go() throws Exception {
        if (below(20) > 0) begin();
        while (calls < CALLS && !broken) {
            int die = below(400);
            if (die < 1) begin();
            else if (die < 3) tell("register", register(), true);
            else if (die < 15) tell("law", sum(0), below(4) == 0);
            else if (die < 60) tell("work", steps(0, 1 + below(6)), below(12) == 0);
            else if (die < 70) tell("book", book(), below(4) == 0);
            else ask(methods.get(below(methods.size())));
        }
    }

    /** A register that stands, and mostly a landing, so that there is something to ask about. */
    private void begin() throws Exception {
        tell("register", register(), false);
        if (below(4) > 0 && (int) call("told", 0) > 0) {
            tell("work", "again " + call("told", 10) + "[week;];land;" + steps(0, 5), false);
        }
    }

    private int below(int n) { return random.nextInt(n); }

    // ---- calls

    private void ask(Method m) throws Exception {
        String name = m.getName();
        if (name.equals("feed") && below(3) > 0) return;
        if (List.of("register", "law", "work", "book").contains(name) && below(9) > 0) return;
        if ((name.equals("undo") || name.equals("restore")) && below(3) > 0) return;
        Object[] args = new Object[m.getParameterCount()];
        for (int i = 0; i < args.length; i++) args[i] = argument(name, i);
        call(name, args);
    }

    private static final int[] EDGES = {-1, 0, 1, 2, 3, 4, 5, 8, 9, 10, 15, 16, 17, 20, 21, 40, 41,
        99, 100, 150, 151, 600, 601, 900, 901, 999, 1000, 9999, 10000, Integer.MAX_VALUE, Integer.MIN_VALUE};

    private int argument(String name, int i) {
        if (below(60) == 0) return EDGES[below(EDGES.length)];
        switch (name) {
            case "would": return new int[] {1 + below(9), below(100), below(6), below(100), below(2), below(901)}[i];
            case "ahead": return i == 0 ? below(5) == 0 ? 600 : below(601) : below(3);
            case "enough": case "level": return below(100);
            case "court": return i == 0 ? 1 + 2 * below(5) : i == 1 ? below(17) : below(2);
            case "witnesses": return below(17);
            case "loan": return i == 0 ? below(10000) : i == 1 ? below(below(2) == 0 ? 50 : 1000) : below(101);
            case "land": return i == 0 ? below(5) : below(100);
            case "bids": return i == 0 ? below(21) : i < 3 ? below(below(2) == 0 ? 20 : 100) : below(3);
            case "has": return below(below(2) == 0 ? 10 : 100);
            case "voyage": return new int[] {random.nextInt(), below(17), below(41), 1 + below(99), below(4)}[i];
            case "span": return new int[] {random.nextInt(), 1 + below(20), below(17), below(41), 1 + below(99), below(3)}[i];
            case "signer": return i == 0 ? below(8) : below(10);
            case "told": return below(11);
            case "gives": return i == 0 ? below(5) : below(8);
            case "terms": return i == 0 ? below(8) : below(4);
            case "asks": case "ask": return i == 0 ? below(8) : below(2);
            case "taker": return i == 0 ? below(5) : below(4);
            case "best": return below(2);
            case "feed": return random.nextInt();
            case "register": case "law": case "work": case "book": return i == 0 && name.equals("law") ? below(2) : below(700);
            default: return below(9);
        }
    }

    private Object call(String name, Object... args) throws Exception {
        Class<?>[] types = new Class<?>[args.length];
        Arrays.fill(types, int.class);
        Object got = answer(PassagePapers.class.getMethod(name, types), papers, args);
        Object due = answer(Model.class.getMethod(name, types), model, args);
        calls++;
        story.add(name + Arrays.toString(args) + " = " + got);
        if (!got.equals(due)) {
            broken = true;
            System.out.println(String.join("\n", story));
            System.out.println("but due is " + due);
        }
        return got;
    }

    private static Object answer(Method m, Object on, Object[] args) throws Exception {
        try {
            return m.invoke(on, args);
        } catch (InvocationTargetException e) {
            return "throws " + e.getCause().getClass().getName();
        }
    }

    // ---- texts

    private void tell(String kind, String whole, boolean spoil) throws Exception {
        String text = spoil ? spoiled(whole) : whole;
        int most = kind.equals("register") ? 600 : kind.equals("book") ? 100 : 150;
        if (text.length() > most && below(20) > 0) {
            text = text.substring(0, most);
            // A text cut in the midst is a fault; whole steps and clauses are wanted more often.
            int cut = text.lastIndexOf(';');
            if (cut >= 0 && below(4) > 0 && !kind.equals("law")) text = text.substring(0, cut + 1);
        }
        if ((int) call("count", 1) > 0) call("law", 1, 0);
        story.add("-- " + kind + ": " + text);
        call("feed", words(text, 0));
        for (int from = 20; from < text.length(); from += 20) call("feed", words(text, from));
        int n = below(40) == 0 ? below(160) - 2 : text.length();
        if ((int) call("count", 1) != (text.length() + 19) / 20 * 20 && text.length() > 0) return;
        if (kind.equals("law")) call(kind, below(2), n); else call(kind, n);
        call("fault");
        call("told", 9);
    }

    private static Object[] words(String text, int from) {
        Object[] words = new Object[5];
        for (int w = 0; w < 5; w++) {
            int word = 0;
            for (int i = 0; i < 4; i++) {
                int place = from + 4 * w + i;
                word = word << 8 | (place < text.length() ? text.charAt(place) & 255 : 0);
            }
            words[w] = word;
        }
        return words;
    }

    private String blank() { return below(6) > 0 ? "" : below(2) == 0 ? " " : "  "; }

    private String register() {
        StringBuilder b = new StringBuilder();
        int signers = below(5) == 0 ? below(10) : 3 + below(6);
        int takers = below(8) == 0 ? below(7) : 2 + below(4);
        int kinds = 1 + below(4);
        for (int i = 0; i < signers; i++) {
            b.append("signer ").append(1 + below(below(3) == 0 ? 9 : 3)).append(' ').append(below(6)).append(' ')
                    .append(below(2) == 0 ? 0 : 1 + below(kinds)).append(blank()).append(';').append(blank());
            if (below(3) > 0) b.append("kinsman ").append(below(i + 1)).append(' ').append(below(below(2) == 0 ? 50 : 300)).append(';');
        }
        for (int i = 0; i < takers; i++) {
            b.append("taker").append(blank()).append(below(6)).append(' ').append(1 + below(40)).append(' ').append(1 + below(4)).append(';');
        }
        if (below(3) > 0) b.append("stores ").append(below(below(2) == 0 ? 60 : 401)).append(';');
        if (below(4) > 0) b.append("voyage ").append(below(below(3) == 0 ? 21 : 3)).append(blank()).append(';');
        if (below(20) == 0) for (int i = 0; i < 62; i++) b.append("stores").append(i % 10).append(';');
        return b.append(blank()).toString();
    }

    private static final String[] NAMES = {"years", "added", "trade", "hungry", "kin", "lost", "placed", "week"};

    private String sum(int depth) {
        StringBuilder b = new StringBuilder(product(depth));
        for (int i = below(3); i > 0; i--) b.append(blank()).append(below(2) == 0 ? '+' : '-').append(product(depth));
        return b.append(blank()).toString();
    }

    private String product(int depth) {
        StringBuilder b = new StringBuilder(unit(depth));
        for (int i = below(3); i > 0; i--) b.append(blank()).append(below(3) > 0 ? '*' : '/').append(unit(depth));
        return b.toString();
    }

    private String unit(int depth) {
        int die = below(depth > 7 || depth > 1 && below(8) > 0 ? 7 : 12);
        if (die < 3) return blank() + below(die == 0 ? 1000 : die == 1 ? 60 : 4);
        if (die < 7) return blank() + NAMES[below(8)];
        if (die < 9) return blank() + "(" + sum(depth + 1) + ")";
        return blank() + (below(2) == 0 ? "least" : "most") + blank() + "[" + sum(depth + 1) + "," + sum(depth + 1) + "]";
    }

    private String steps(int depth, int many) {
        StringBuilder b = new StringBuilder();
        for (int i = 0; i < many; i++) b.append(blank()).append(step(depth)).append(blank()).append(';');
        return b.append(blank()).toString();
    }

    private String step(int depth) {
        int s = below(model.told(0) + (below(40) == 0 ? 1 : 0) + (model.told(0) == 0 ? 1 : 0));
        switch (below(16)) {
            case 0: case 1: return "land";
            case 2: case 3: case 4: case 5:
                return "place " + s + " " + below(Math.max(1, model.told(1)) + (below(40) == 0 ? 1 : 0));
            case 6: return "add " + s + " " + (1 + below(24));
            case 7: return "strike " + s;
            case 8: return "lose " + s;
            case 9: return "copy " + s;
            case 10: return "pay " + s;
            case 11: case 12: case 13: return depth > 7 ? "week" : "again " + below(61) + blank() + "[" + steps(depth + 1, below(3)) + "]";
            default: return "week";
        }
    }

    private String book() {
        StringBuilder b = new StringBuilder();
        // Most books should be right for some terms, so that there are terms to count.
        int asks = model.told(0) > 0 ? model.asks(below(model.told(0)), 0) : below(500);
        for (int i = below(10); i > 0; i--) {
            int w = below(below(2) == 0 ? 10 : 500);
            b.append(w).append(' ').append(below(12) > 0 ? Math.max(0, asks - w) : below(1000)).append(blank()).append(';').append(blank());
        }
        return b.toString();
    }

    private String spoiled(String text) {
        StringBuilder b = new StringBuilder(text);
        for (int i = 1 + below(2); i > 0; i--) {
            int place = below(b.length() + 1);
            char sign = below(3) == 0 ? (char) below(256) : "0123456789;[],+-*/() aeklnorstwy".charAt(below(32));
            switch (below(4)) {
                case 0: b.insert(place, sign); break;
                case 1: if (place < b.length()) b.setCharAt(place, sign); break;
                case 2: if (place < b.length()) b.deleteCharAt(place); break;
                default: b.setLength(place); break;
            }
        }
        return b.toString();
    }
}
