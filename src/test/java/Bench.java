import java.util.NoSuchElementException;

/** What the hand-written tests share: texts onto the tape, answers held against what is due. */
final class Bench {
    /** A call that is to throw. */
    interface Call {
        void make();
    }

    private static int wrong = 0;
    private static int asked = 0;

    private Bench() {
    }

    static void due(String what, long got, long want) {
        asked++;
        if (got != want) {
            wrong++;
            System.out.println(what + ": answered " + got + ", due is " + want);
        }
    }

    static void due(String what, boolean got, boolean want) {
        due(what, got ? 1 : 0, want ? 1 : 0);
    }

    static void illegal(String what, Call call) {
        due(what + " (1 no such, 2 illegal)", thrown(call), 2);
    }

    static void noSuch(String what, Call call) {
        due(what + " (1 no such, 2 illegal)", thrown(call), 1);
    }

    private static int thrown(Call call) {
        try {
            call.make();
            return 0;
        } catch (NoSuchElementException e) {
            return 1;
        } catch (IllegalArgumentException e) {
            return e.getClass() == IllegalArgumentException.class ? 2 : 3;
        }
    }

    static void feed(PassagePapers x, String text) {
        for (int from = 0; from < text.length(); from += 20) {
            int[] w = new int[5];
            for (int i = 0; i < 20; i++) {
                int sign = from + i < text.length() ? text.charAt(from + i) : 0;
                w[i / 4] = w[i / 4] << 8 | sign & 255;
            }
            x.feed(w[0], w[1], w[2], w[3], w[4]);
        }
    }

    static int register(PassagePapers x, String text) {
        feed(x, text);
        return x.register(text.length());
    }

    static int law(PassagePapers x, int which, String text) {
        feed(x, text);
        return x.law(which, text.length());
    }

    static int work(PassagePapers x, String text) {
        feed(x, text);
        return x.work(text.length());
    }

    static int book(PassagePapers x, String text) {
        feed(x, text);
        return x.book(text.length());
    }

    static PassagePapers opened(String register) {
        PassagePapers x = new PassagePapers();
        if (register(x, register) < 0) {
            throw new IllegalStateException("the test's register has a fault: " + register);
        }
        return x;
    }

    /** Ends the test: exit code 1, if an answer was not the one that is due. */
    static void end(String name) {
        System.out.println(name + ": " + asked + " answers, " + wrong + " of them wrong");
        if (wrong != 0 || asked == 0) {
            System.exit(1);
        }
    }
}
