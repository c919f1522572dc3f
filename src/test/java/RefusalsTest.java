import java.lang.reflect.InvocationTargetException;
import java.lang.reflect.Method;
import java.util.Arrays;
import java.util.NoSuchElementException;

/**
 * Each argument of each call that can be refused, just beyond either end of what it may be and far
 * beyond it: the call throws what the document names, is counted once (promise 41), and changes
 * nothing. At either end itself it is not refused.
 */
public final class RefusalsTest {
    private static final String TEXT = "week;week;week;week;";
    private static final int SIGNERS = 3;
    private static final int TAKERS = 2;

    /** A call: its promise, its name, and for each argument the least and the most that it may be. */
    private static final Object[][] CALLS = {
        {3, "register", new int[][] {{0, 20}}},
        {4, "law", new int[][] {{0, 1}, {0, 20}}},
        {5, "work", new int[][] {{0, 20}}},
        {6, "book", new int[][] {{0, 20}}},
        {9, "told", new int[][] {{0, 10}}},
        {10, "signer", new int[][] {{0, SIGNERS - 1}, {0, 9}}},
        {11, "taker", new int[][] {{0, TAKERS - 1}, {0, 3}}},
        {12, "asks", new int[][] {{0, SIGNERS - 1}, {0, 1}}},
        {13, "owes", new int[][] {{0, SIGNERS - 1}}},
        {14, "would", new int[][] {{1, 9}, {0, 99}, {0, 5}, {0, 99}, {0, 1}, {0, 900}}},
        {16, "freeIn", new int[][] {{0, SIGNERS - 1}}},
        {17, "otherwise", new int[][] {{0, SIGNERS - 1}}},
        {18, "ahead", new int[][] {{0, 600}, {0, 2}}},
        {19, "gives", new int[][] {{0, TAKERS - 1}, {0, SIGNERS - 1}}},
        {20, "best", new int[][] {{0, 1}}},
        {21, "bestFor", new int[][] {{0, SIGNERS - 1}}},
        {23, "kin", new int[][] {{0, SIGNERS - 1}}},
        {24, "fare", new int[][] {{0, SIGNERS - 1}}},
        {25, "canPay", new int[][] {{0, SIGNERS - 1}}},
        {26, "enough", new int[][] {{0, 99}}},
        {27, "level", new int[][] {{0, 99}}},
        {29, "terms", new int[][] {{0, SIGNERS - 1}, {0, 3}}},
        {30, "ask", new int[][] {{0, SIGNERS - 1}, {0, 1}}},
        {31, "court", new int[][] {{1, 9}, {0, 16}, {0, 1}}},
        {32, "witnesses", new int[][] {{0, 16}, {0, 16}}},
        {33, "loan", new int[][] {{0, 9999}, {0, 999}, {0, 100}}},
        {34, "land", new int[][] {{0, TAKERS - 1}, {0, 99}}},
        {35, "bids", new int[][] {{0, 20}, {0, 99}, {0, 99}, {0, 2}}},
        {36, "has", new int[][] {{0, 99}, {0, 99}, {0, 99}}},
        {37, "voyage", new int[][] {{Integer.MIN_VALUE, Integer.MAX_VALUE}, {0, 16}, {0, 40}, {1, 99}, {0, 3}}},
        {38, "span", new int[][] {{Integer.MIN_VALUE, Integer.MAX_VALUE}, {1, 20}, {0, 16}, {0, 40}, {1, 99}, {0, 2}}},
    };

    public static void main(String[] args) throws Exception {
        for (Object[] call : CALLS) {
            int promise = (int) call[0];
            String name = (String) call[1];
            int[][] ranges = (int[][]) call[2];
            Bench.sentence(promise, "what " + name + " may be asked, and what it refuses");
            notRefused(name, ranges);
            for (int i = 0; i < ranges.length; i++) {
                if (ranges[i][0] == Integer.MIN_VALUE) continue;
                for (int bad : new int[] {ranges[i][0] - 1, ranges[i][1] + 1, Integer.MIN_VALUE, Integer.MAX_VALUE}) {
                    int[] arguments = least(ranges);
                    arguments[i] = bad;
                    refused(name, arguments, nameOfFault(name, i));
                }
            }
        }
        aheadOfOthers();
        Bench.end("RefusalsTest");
    }

    private static int[] least(int[][] ranges) {
        int[] arguments = new int[ranges.length];
        for (int i = 0; i < ranges.length; i++) arguments[i] = ranges[i][0];
        return arguments;
    }

    /** Which arguments name a signer or a taker; all others are refused as illegal. */
    private static Class<?> nameOfFault(String name, int argument) {
        boolean someone = argument == 0 && Arrays.asList("signer", "taker", "asks", "owes", "freeIn", "otherwise",
                "bestFor", "kin", "fare", "canPay", "terms", "ask", "land").contains(name) || name.equals("gives");
        return someone ? NoSuchElementException.class : IllegalArgumentException.class;
    }

    private static PassagePapers opened() {
        PassagePapers x = Bench.opened("signer 5 1 1;signer 4 2 1;signer 1 0 0;taker 1 20 2;taker 0 1 1;voyage 0;");
        Bench.law(x, 1, "years*9");
        Bench.book(x, "499 0;");
        Bench.done(x, "land;place 0 1;");
        x.image();
        Bench.work(x, "add 0 5;pay 1;week;pay 1;lose 1;");
        Bench.law(x, 0, "years*40+");
        Bench.feed(x, TEXT);
        return x;
    }

    private static Object make(PassagePapers x, String name, int[] arguments) throws Exception {
        Class<?>[] types = new Class<?>[arguments.length];
        Arrays.fill(types, int.class);
        Object[] boxed = new Object[arguments.length];
        for (int i = 0; i < boxed.length; i++) boxed[i] = arguments[i];
        Method method = PassagePapers.class.getMethod(name, types);
        try {
            return method.invoke(x, boxed);
        } catch (InvocationTargetException e) {
            return e.getCause().getClass();
        }
    }

    private static void notRefused(String name, int[][] ranges) throws Exception {
        for (int i = 0; i < ranges.length; i++) {
            for (int edge : ranges[i]) {
                PassagePapers x = opened();
                int[] arguments = least(ranges);
                arguments[i] = edge;
                Object answer = make(x, name, arguments);
                Bench.due(name + Arrays.toString(arguments) + " is not refused", answer instanceof Class, false);
                Bench.due("nor counted", x.status(0) + x.status(1), 0);
            }
        }
    }

    private static void refused(String name, int[] arguments, Class<?> due) throws Exception {
        String call = name + Arrays.toString(arguments);
        PassagePapers x = opened();
        String before = Bench.picture(x);
        Object answer = make(x, name, arguments);
        Bench.due(call, String.valueOf(answer), due.toString());
        boolean noSuch = due == NoSuchElementException.class;
        Bench.due(call + ", no such, counted", x.status(0), noSuch ? 1 : 0);
        Bench.due(call + ", illegal, counted", x.status(1), noSuch ? 0 : 1);
        Bench.due(call + " changes nothing", Bench.picture(x), before);
        Bench.due(call + " leaves the refused steps", x.told(9), 2);
        Bench.due(call + " leaves the fault", x.fault(), 9);
        Bench.due(call + " leaves the tape", x.count(1), 20);
        Bench.due(call + " leaves the works", x.count(2), 2);
        Bench.due(call + " leaves the images", x.count(0), 1);
        Bench.due(call + " leaves the tape's bytes", x.work(20), 4);
    }

    private static void aheadOfOthers() throws Exception {
        Bench.sentence(10, "NoSuchElementException: no such SIGNER, TAKER (so below, ahead of others)");
        refused("signer", new int[] {3, 10}, NoSuchElementException.class);
        refused("taker", new int[] {2, 4}, NoSuchElementException.class);
        refused("asks", new int[] {-1, 2}, NoSuchElementException.class);
        refused("gives", new int[] {2, 3}, NoSuchElementException.class);
        refused("terms", new int[] {3, -1}, NoSuchElementException.class);
        refused("ask", new int[] {3, 2}, NoSuchElementException.class);
        refused("land", new int[] {2, 100}, NoSuchElementException.class);
    }
}
