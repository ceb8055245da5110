import java.lang.management.ManagementFactory;
import java.lang.reflect.Field;
import java.lang.reflect.Method;
import java.lang.reflect.Modifier;
import java.nio.file.Files;
import java.nio.file.Path;
import java.util.Arrays;
import java.util.Comparator;
import java.util.List;
import java.util.Random;
import java.util.Set;
import java.util.TreeSet;
import java.util.regex.Matcher;
import java.util.regex.Pattern;

/** The face is that of the document; the source keeps to LANGUAGE.md where that can be read off; calls make nothing. */
public final class FaceTest {
    private static final List<String> FACE = List.of(
        "int letters(long)", "int blank()", "int fault()", "int mine()", "int gallery(int, int)",
        "int knot(int, int)", "int door(int, boolean)", "int turn()", "int man(int, int)", "int about(int, int)",
        "int as(int, int)", "int walk(int, int)", "int minutes(int)", "int smelt(int, int)", "int doors(int, int)",
        "int wayOut(int)", "int fire(int, int)", "int next(int, int)", "int rescue(int, int, int)",
        "int walks(int, int, int)", "int image()", "int restore()", "int count(int)", "long digest()");
    private static final List<String> NUMBERS = List.of("NONE", "UNKNOWN", "OUTSIDE", "STATE", "FULL");
    private static final List<String> NOT_IN_SOURCE = List.of(
        "\\b(throw|throws|try|catch|synchronized|assert|import|package|native|volatile|var)\\b",
        "->", "::", "\\+ *\"", "\" *\\+", "Exact\\(", "\\bSystem\\.(?!arraycopy)", "@", "\\b(HashMap|Map|Set|Random|Object)\\b",
        "\\b(double|float)\\b", "[^\\x00-\\x7f]");

    private static final List<Method> CALLS = Arrays.stream(MoleMaps.class.getDeclaredMethods())
        .filter(m -> Modifier.isPublic(m.getModifiers())).sorted(Comparator.comparing(Method::getName)).toList();

    private static final Check check = new Check();

    public static void main(String[] args) throws Exception {
        members();
        insideClasses();
        source(Files.readString(Path.of(args[0])));
        makesNothing();
        neverThrows();
        check.end("FaceTest");
    }

    private static void holds(String what, boolean so) {
        check.due(what, so ? 1 : 0, 1);
    }

    private static String told(Method m) {
        StringBuilder b = new StringBuilder();
        b.append(m.getReturnType().getName()).append(' ').append(m.getName()).append('(');
        for (int i = 0; i < m.getParameterCount(); i++) {
            b.append(i == 0 ? "" : ", ").append(m.getParameterTypes()[i].getName());
        }
        return b.append(')').toString();
    }

    private static void members() {
        Class<?> c = MoleMaps.class;
        holds("public final", Modifier.isPublic(c.getModifiers()) && Modifier.isFinal(c.getModifiers()));
        check.due("constructors", c.getDeclaredConstructors().length, 1);
        holds("the constructor is public", Modifier.isPublic(c.getDeclaredConstructors()[0].getModifiers()));
        TreeSet<String> face = new TreeSet<>();
        for (Method m : c.getDeclaredMethods()) {
            if (!Modifier.isPrivate(m.getModifiers())) {
                face.add(told(m));
            }
        }
        holds("the face: " + face, face.equals(new TreeSet<>(FACE)));
        TreeSet<String> numbers = new TreeSet<>();
        for (Field f : c.getDeclaredFields()) {
            if (!Modifier.isPrivate(f.getModifiers())) {
                numbers.add(f.getName());
            }
        }
        holds("the constants: " + numbers, numbers.equals(new TreeSet<>(NUMBERS)));
    }

    private static void insideClasses() {
        TreeSet<String> names = new TreeSet<>();
        FACE.forEach(f -> names.add(f.replaceAll(".* |\\(.*", "")));
        Class<?>[] inside = MoleMaps.class.getDeclaredClasses();
        holds("some twelve classes", inside.length < 13);
        for (Class<?> c : inside) {
            int m = c.getModifiers();
            holds(c + " is static and not public", Modifier.isStatic(m) && !Modifier.isPublic(m) && !Modifier.isProtected(m));
        }
        Class<?>[] all = Arrays.copyOf(inside, inside.length + 1);
        all[inside.length] = MoleMaps.class;
        for (Class<?> c : all) {
            long held = Arrays.stream(c.getDeclaredFields()).filter(f -> !Modifier.isStatic(f.getModifiers())).count();
            holds(c + " has some twenty fields", held <= 20);
            for (Field f : c.getDeclaredFields()) {
                holds(f + " is no static state", !Modifier.isStatic(f.getModifiers()) || Modifier.isFinal(f.getModifiers()));
            }
            for (Method m : c.getDeclaredMethods()) {
                holds(m + " takes seven at most", m.getParameterCount() <= 7);
                holds(m + " bears a name of its own", !Modifier.isPrivate(m.getModifiers()) || !names.contains(m.getName()));
            }
        }
    }

    private static void source(String text) {
        String code = text.replaceAll("(?s)/\\*.*?\\*/", "").replaceAll("//.*", "");
        for (String words : NOT_IN_SOURCE) {
            Matcher m = Pattern.compile(words).matcher(code);
            holds("not in the source: " + words + (m.find() ? " but '" + m.group() + "'" : ""), !m.reset().find());
        }
        // One place alone touches an array, and it looks at each index first.
        String outsideRow = code.replaceAll("(?s)class Row \\{.*?class Page", "class Page");
        holds("arrays in Row alone", outsideRow.indexOf('[') < 0 && code.indexOf('[') >= 0);
        shortMethods(text.split("\n"));
    }

    /** A method begins at a line that ends in ") {" and bears no more than the indent of a member; it ends at its "}". */
    private static void shortMethods(String[] lines) {
        int methods = 0;
        for (int from = 0; from < lines.length; from++) {
            String indent = lines[from].replaceAll("\\S.*", "");
            String word = lines[from].trim().replaceAll("\\W.*", "");
            boolean begins = lines[from].endsWith(") {") && !List.of("if", "for", "while", "switch").contains(word);
            if (!begins || indent.length() > 8 || lines[from].trim().startsWith("}")) {
                continue;
            }
            int to = from;
            while (to < lines.length && !lines[to].equals(indent + "}")) {
                to++;
            }
            methods++;
            holds("line " + (from + 1) + " begins a method of " + (to - from + 1) + " lines", to - from < 60);
        }
        holds("methods were found: " + methods, methods > 50);
    }

    /** All calls of a run live in one room: what calls make is measured, not guessed. */
    private static void makesNothing() {
        dearCalls();
        com.sun.management.ThreadMXBean room = (com.sun.management.ThreadMXBean) ManagementFactory.getThreadMXBean();
        long id = Thread.currentThread().getId();
        MoleMaps x = Check.mineOf("013d,124d,235d,346d,457d,568d,609d,024d,135d,246d;0918");
        long before = room.getThreadAllocatedBytes(id);
        calls(x);
        long made = room.getThreadAllocatedBytes(id) - before;
        holds("calls made " + made + " bytes", made < 4096);
    }

    /** No call ever throws, whatever it is given, be it behind 512 others or many more; what it answers then is free. */
    private static void neverThrows() {
        Random random = new Random(7);
        MoleMaps x = new MoleMaps();
        Set<String> made = new TreeSet<>();
        for (int i = 0; i < 20000; i++) {
            Method m = CALLS.get(random.nextInt(CALLS.size()));
            Object[] given = new Object[m.getParameterCount()];
            for (int p = 0; p < given.length; p++) {
                given[p] = oneOf(m.getParameterTypes()[p], random);
            }
            String call = "call " + i + ": " + m.getName() + Arrays.toString(given);
            try {
                m.invoke(x, given);
                made.add(m.getName());
            } catch (ReflectiveOperationException thrown) {
                holds(call + " threw " + thrown.getCause(), false);
            }
            if (i % 100 == 0) {
                x.blank();
                Check.type(x, "013d,124d,235d,346d,457,568d,609d,024,135d,246d;0918");
                x.mine();
            }
        }
        check.due("calls that were made", made.size(), FACE.size());
    }

    private static Object oneOf(Class<?> type, Random random) {
        if (type == boolean.class) {
            return random.nextBoolean();
        }
        int some = random.nextInt(4) == 0 ? random.nextInt() : random.nextInt(-2, 80) >> random.nextInt(5);
        int[] ends = {Integer.MIN_VALUE, Integer.MAX_VALUE, -1, 1 << 31 - random.nextInt(32)};
        int given = random.nextInt(8) == 0 ? ends[random.nextInt(ends.length)] : some;
        return type == long.class ? (Object) (long) given : (Object) given;
    }

    private static void dearCalls() {
        calls(Check.mineOf("013d,124d,235d,346d,457d,568d,609d,024d,135d,246d;0918"));
    }

    private static void calls(MoleMaps x) {
        for (int i = 0; i < 6; i++) {
            x.man(i % 5, i);
        }
        for (int i = 0; i < 40; i++) {
            x.doors(127, 1);
            x.rescue(0, 124, 0);
            x.walks(60, i, 0);
            x.fire(60, 2);
            x.next(60, 2);
            x.door(i % 10, i % 3 == 0);
            x.turn();
            x.image();
            x.minutes(60);
            x.restore();
            x.letters('0');
            x.fault();
            x.digest();
        }
    }
}
