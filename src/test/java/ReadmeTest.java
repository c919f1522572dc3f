import java.lang.reflect.InvocationTargetException;
import java.lang.reflect.Method;
import java.lang.reflect.Modifier;
import java.nio.file.Files;
import java.nio.file.Path;
import java.util.ArrayList;
import java.util.Arrays;
import java.util.HashSet;
import java.util.List;
import java.util.Set;
import java.util.regex.Matcher;
import java.util.regex.Pattern;

/** The README's calls are made as they are written there, and each answers as its comment says. */
public final class ReadmeTest {
    private static final Pattern CALL = Pattern.compile("papers\\.(\\w+)\\((.*)\\); *// (throws \\w+|[^ :]+).*");
    private static final Pattern TEXT = Pattern.compile("feed\\(papers, ((?:\"[^\"]*\"[ +]*)+)\\)");

    private static PassagePapers papers = new PassagePapers();

    public static void main(String[] args) throws Exception {
        String readme = Files.readString(Path.of("README.md"));
        // A call may go on over a line's end, within its text.
        for (String line : readme.replaceAll("\\R +\\+ \"", " + \"").split("\\R")) {
            Matcher call = CALL.matcher(line);
            if (line.equals("PassagePapers papers = new PassagePapers();")) {
                papers = new PassagePapers();
            } else if (call.matches()) {
                Bench.due("README: " + line, answer(call.group(1), arguments(call.group(2))), call.group(3));
            } else if (line.startsWith("papers.")) {
                Bench.due("README: a call", line, "a call with its answer behind //");
            }
        }
        everyCallIsNamed(readme);
        Bench.end("ReadmeTest");
    }

    /** Numbers, and texts that are fed and stand for their length. */
    private static Object[] arguments(String written) {
        Matcher text = TEXT.matcher(written);
        String plain = written;
        if (text.find()) {
            String whole = text.group(1).replaceAll("\" *\\+ *\"", "").replace("\"", "");
            Bench.feed(papers, whole);
            plain = text.replaceFirst(String.valueOf(whole.length()));
        }
        List<Object> numbers = new ArrayList<>();
        for (String number : plain.split(",")) {
            if (!number.isBlank()) numbers.add(Integer.valueOf(number.trim()));
        }
        return numbers.toArray();
    }

    private static String answer(String name, Object[] arguments) throws Exception {
        Class<?>[] types = new Class<?>[arguments.length];
        Arrays.fill(types, int.class);
        try {
            Object answer = PassagePapers.class.getMethod(name, types).invoke(papers, arguments);
            return answer.equals(PassagePapers.NONE) ? "NONE" : answer.toString();
        } catch (InvocationTargetException e) {
            return "throws " + e.getCause().getClass().getSimpleName();
        }
    }

    private static void everyCallIsNamed(String readme) {
        Set<String> named = new HashSet<>();
        Matcher name = Pattern.compile("`(\\w+)`").matcher(readme.substring(readme.indexOf("| --- |")));
        while (name.find()) named.add(name.group(1));
        for (Method method : PassagePapers.class.getDeclaredMethods()) {
            if (Modifier.isPublic(method.getModifiers())) {
                Bench.due("README: the table names " + method.getName(), named.contains(method.getName()), true);
            }
        }
    }
}
