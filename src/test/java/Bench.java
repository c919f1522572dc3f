import java.util.HashSet;
import java.util.NoSuchElementException;
import java.util.Set;

/** What the hand-written tests share: texts onto the tape, answers held against what is due. */
final class Bench {
    /** A call that is to throw. */
    interface Call {
        void make();
    }

    private static int wrong = 0;
    private static int asked = 0;
    private static final Set<String> sentences = new HashSet<>();
    private static String sentence = "";

    private Bench() {
    }

    /** The sentence of the document that the answers from here on hold to. */
    static void sentence(int promise, String words) {
        sentence = "promise " + promise + ", \"" + words + "\": ";
        sentences.add(sentence);
    }

    static void due(String what, long got, long want) {
        asked++;
        if (got != want) {
            wrong++;
            System.out.println(sentence + what + ": answered " + got + ", due is " + want);
        }
    }

    static void due(String what, boolean got, boolean want) {
        due(what, got ? 1 : 0, want ? 1 : 0);
    }

    static void due(String what, String got, String want) {
        asked++;
        if (!got.equals(want)) {
            wrong++;
            System.out.println(sentence + what + ":\n  answered " + got + "\n  due is   " + want);
        }
    }

    static void illegal(String what, Call call) {
        due(what + " (1 no such, 2 illegal)", thrown(call), 2);
    }

    static void noSuch(String what, Call call) {
        due(what + " (1 no such, 2 illegal)", thrown(call), 1);
    }

    /** A call that is not refused, though its arguments stand at an edge. */
    static void fine(String what, Call call) {
        due(what + " (0 not refused, 1 no such, 2 illegal)", thrown(call), 0);
    }

    private static int thrown(Call call) {
        try {
            call.make();
            return 0;
        } catch (NoSuchElementException e) {
            return e.getClass() == NoSuchElementException.class ? 1 : 3;
        } catch (IllegalArgumentException e) {
            return e.getClass() == IllegalArgumentException.class ? 2 : 3;
        } catch (RuntimeException e) {
            return 3;
        }
    }

    static void feed(PassagePapers x, String text) {
        for (int from = 0; from < text.length(); from += 20) {
            int[] w = new int[5];
            for (int i = 0; i < 20; i++) {
                int sign = from + i < text.length() ? text.charAt(from + i) : 0;
                w[i / 4] = w[i / 4] << 8 | sign & 255;
            }
            x.feed(w[0], w[1], w[2], w[3], w[4]);
        }
    }

    static int register(PassagePapers x, String text) {
        feed(x, text);
        return x.register(text.length());
    }

    static int law(PassagePapers x, int which, String text) {
        feed(x, text);
        return x.law(which, text.length());
    }

    static int work(PassagePapers x, String text) {
        feed(x, text);
        return x.work(text.length());
    }

    static int book(PassagePapers x, String text) {
        feed(x, text);
        return x.book(text.length());
    }

    static PassagePapers opened(String register) {
        PassagePapers x = new PassagePapers();
        if (register(x, register) < 0) {
            throw new IllegalStateException("the test's register has a fault: " + register);
        }
        return x;
    }

    /** Does a work whose steps all can be done; a test that gets this wrong is wrong itself. */
    static void done(PassagePapers x, String work) {
        if (work(x, work) < 0 || x.told(9) != 0) {
            throw new IllegalStateException("the test's work can't be done: " + work);
        }
    }

    static void undo(PassagePapers x, int times) {
        for (int i = 0; i < times; i++) {
            if (x.undo() < 0) {
                throw new IllegalStateException("the test has nothing to undo");
            }
        }
    }

    /** What stands in the register and the state, as text: each signer, each taker, the rest. */
    static String picture(PassagePapers x) {
        StringBuilder b = new StringBuilder();
        for (int what = 0; what <= 10; what++) {
            if (what != 9) b.append(x.told(what)).append(' ');
        }
        for (int s = 0; s < x.told(0); s++) {
            b.append("| ");
            for (int what = 0; what <= 9; what++) b.append(x.signer(s, what)).append(' ');
            b.append(x.asks(s, 0)).append(' ').append(x.asks(s, 1)).append(' ').append(x.terms(s, 0)).append(' ');
        }
        for (int t = 0; t < x.told(1); t++) {
            b.append("/ ");
            for (int what = 0; what <= 3; what++) b.append(x.taker(t, what)).append(' ');
        }
        return b.toString();
    }

    /** Ends the test: exit code 1, if an answer was not the one that is due. */
    static void end(String name) {
        String held = sentences.isEmpty() ? "" : sentences.size() + " sentences, ";
        System.out.println(name + ": " + held + asked + " answers, " + wrong + " of them wrong");
        if (wrong != 0 || asked == 0) {
            System.exit(1);
        }
    }
}
