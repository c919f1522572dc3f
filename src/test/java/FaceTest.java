import java.lang.reflect.Constructor;
import java.lang.reflect.Field;
import java.lang.reflect.Method;
import java.lang.reflect.Modifier;
import java.util.Set;
import java.util.TreeSet;

/** The public face of the document, whole, and nothing beside it. */
public final class FaceTest {
    private static final String[] FACE = {
        "int ahead(II) IllegalArgumentException",
        "int ask(II) NoSuchElementException IllegalArgumentException",
        "int asks(II) NoSuchElementException IllegalArgumentException",
        "int best(I) IllegalArgumentException",
        "int bestFor(I) NoSuchElementException",
        "int bids(IIII) IllegalArgumentException",
        "int book(I) IllegalArgumentException",
        "boolean canPay(I) NoSuchElementException",
        "int count(I)",
        "long court(III) IllegalArgumentException",
        "int enough(I) IllegalArgumentException",
        "int fare(I) NoSuchElementException",
        "int fault()",
        "int feed(IIIII)",
        "int freeIn(I) NoSuchElementException",
        "int gives(II) NoSuchElementException",
        "int has(III) IllegalArgumentException",
        "int held()",
        "int hunger()",
        "int image()",
        "int kin(I) NoSuchElementException",
        "int land(II) NoSuchElementException IllegalArgumentException",
        "int law(II) IllegalArgumentException",
        "int level(I) IllegalArgumentException",
        "int loan(III) IllegalArgumentException",
        "int otherwise(I) NoSuchElementException",
        "int owes(I) NoSuchElementException",
        "int parted()",
        "int register(I) IllegalArgumentException",
        "int restore()",
        "int signer(II) NoSuchElementException IllegalArgumentException",
        "int span(IIIIII) IllegalArgumentException",
        "int status(I)",
        "int taker(II) NoSuchElementException IllegalArgumentException",
        "int terms(II) NoSuchElementException IllegalArgumentException",
        "int told(I) IllegalArgumentException",
        "int undo()",
        "int voyage(IIIII) IllegalArgumentException",
        "int witnesses(II) IllegalArgumentException",
        "int work(I) IllegalArgumentException",
        "int would(IIIIII) IllegalArgumentException",
    };

    public static void main(String[] args) throws Exception {
        methods();
        members();
        constant();
        Bench.end("FaceTest");
    }

    private static void methods() {
        Set<String> due = new TreeSet<>(Set.of(FACE));
        Set<String> got = new TreeSet<>();
        for (Method m : PassagePapers.class.getDeclaredMethods()) {
            if (Modifier.isPublic(m.getModifiers())) {
                StringBuilder b = new StringBuilder(m.getReturnType().getName()).append(' ').append(m.getName()).append('(');
                for (Class<?> type : m.getParameterTypes()) b.append(type == int.class ? "I" : "?");
                b.append(')');
                for (Class<?> thrown : m.getExceptionTypes()) b.append(' ').append(thrown.getSimpleName());
                got.add(b.toString());
                Bench.due(m.getName() + " is no static method", Modifier.isStatic(m.getModifiers()), false);
            }
        }
        Bench.due("the methods", String.join("\n", got), String.join("\n", due));
        Bench.due("as many as there are promises, but for the constructor", got.size(), 41);
    }

    private static void members() {
        Class<?> c = PassagePapers.class;
        Bench.due("public and final", Modifier.isPublic(c.getModifiers()) && Modifier.isFinal(c.getModifiers()), true);
        Bench.due("no package", c.getPackageName(), "");
        Bench.due("one constructor", c.getDeclaredConstructors().length, 1);
        for (Constructor<?> made : c.getDeclaredConstructors()) {
            Bench.due("public, of nothing", Modifier.isPublic(made.getModifiers()) && made.getParameterCount() == 0, true);
        }
        Set<String> names = new TreeSet<>();
        for (Method m : c.getDeclaredMethods()) {
            boolean isPublic = Modifier.isPublic(m.getModifiers());
            Bench.due(m.getName() + " is public or private", isPublic || Modifier.isPrivate(m.getModifiers()), true);
            if (isPublic) names.add(m.getName());
        }
        for (Method m : c.getDeclaredMethods()) {
            if (Modifier.isPrivate(m.getModifiers())) {
                Bench.due("private " + m.getName() + " bears another name", names.contains(m.getName()), false);
            }
        }
        for (Class<?> inner : c.getDeclaredClasses()) {
            Bench.due(inner + " is static", Modifier.isStatic(inner.getModifiers()), true);
            Bench.due(inner + " is not public", Modifier.isPublic(inner.getModifiers()), false);
        }
    }

    private static void constant() throws Exception {
        for (Field f : PassagePapers.class.getDeclaredFields()) {
            boolean isNone = f.getName().equals("NONE");
            Bench.due(f.getName() + " is public", Modifier.isPublic(f.getModifiers()), isNone);
            Bench.due(f.getName() + " is private", Modifier.isPrivate(f.getModifiers()), !isNone);
            if (Modifier.isStatic(f.getModifiers())) {
                Bench.due(f.getName() + " is final", Modifier.isFinal(f.getModifiers()), true);
            }
        }
        Bench.due("NONE", PassagePapers.class.getField("NONE").getInt(null), -1);
    }
}
