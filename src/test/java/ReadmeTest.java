import java.io.IOException;
import java.lang.reflect.Method;
import java.lang.reflect.Modifier;
import java.nio.charset.StandardCharsets;
import java.nio.file.Files;
import java.nio.file.Path;
import java.util.ArrayList;
import java.util.Comparator;
import java.util.List;
import java.util.Set;
import java.util.TreeSet;
import java.util.regex.Matcher;
import java.util.regex.Pattern;
import java.util.stream.Stream;

/** What README.md shows of the class compiles and answers as it says, and the way it names to run the tests runs them. */
public final class ReadmeTest {
    private static final Path PAGE = Path.of("README.md");
    private static final Path MAIN = Path.of("src/main/java/MoleMaps.java");
    private static final Path TESTS = Path.of("src/test/java");
    private static final Path RUN = Path.of(".ci/run");
    /** A call in an example, and what the page says that it answers. */
    private static final Pattern ANSWERED = Pattern.compile("(.*\\bx\\b.*\\)); +// (-?\\d+L?|[A-Z]+)(: .*)?");
    private static final Set<String> MADE = Set.of("MoleMaps x = new MoleMaps();");

    private static final Check check = new Check();

    /** A block between ``` lines: under which heading it stands, in which language, and its lines. */
    private record Block(String heading, String language, List<String> lines) {
        String text() {
            return String.join("\n", lines) + "\n";
        }
    }

    private record Ended(int code, String told) {
    }

    public static void main(String[] args) throws Exception {
        String page = Files.readString(PAGE);
        List<Block> blocks = blocks(page);
        Path room = Files.createTempDirectory("readme");
        try {
            firstMine(blocks, room);
            examples(blocks, room);
            wayToTest(blocks, room);
        } finally {
            empty(room);
        }
        allCallsAreShown(page, blocks);
        allTestsAreNamed(page);
        check.end("ReadmeTest");
    }

    private static void holds(String what, boolean so) {
        check.due(what, so ? 1 : 0, 1);
    }

    // ---- the page

    private static List<Block> blocks(String page) {
        List<Block> found = new ArrayList<>();
        String heading = "";
        Block open = null;
        for (String line : page.split("\n")) {
            if (open == null && line.startsWith("#")) {
                heading = line.replaceFirst("#+ ", "");
            } else if (open == null && line.startsWith("```")) {
                open = new Block(heading, line.substring(3), new ArrayList<>());
            } else if (open != null && line.equals("```")) {
                found.add(open);
                open = null;
            } else if (open != null) {
                open.lines().add(line);
            }
        }
        holds("each block ends", open == null);
        return found;
    }

    private static Block block(List<Block> blocks, String heading, String language) {
        List<Block> fit = blocks.stream()
            .filter(b -> b.heading().equals(heading) && b.language().equals(language)).toList();
        check.due("blocks of " + language + " under '" + heading + "'", fit.size(), 1);
        return fit.get(0);
    }

    private static List<String> exampleLines(List<Block> blocks) {
        return blocks.stream()
            .filter(b -> b.language().equals("java") && b.heading().startsWith("The calls: "))
            .flatMap(b -> b.lines().stream()).toList();
    }

    // ---- its examples

    /** In a room with the class and the program in it the page's own commands make what the page says they print. */
    private static void firstMine(List<Block> blocks, Path room) throws Exception {
        Files.createDirectories(room.resolve(MAIN).getParent());
        Files.copy(MAIN, room.resolve(MAIN));
        Files.writeString(room.resolve("FirstMine.java"), block(blocks, "A first mine", "java").text());
        Ended first = shell(block(blocks, "A first mine", "sh").text(), room);
        check.due("exit code of the first mine", first.code(), 0);
        String want = block(blocks, "A first mine", "text").text();
        holds("the first mine prints\n" + want + "but it printed\n" + first.told(), first.told().equals(want));
    }

    /** All examples in a row, as they go on from one another. */
    private static void examples(List<Block> blocks, Path room) throws Exception {
        StringBuilder b = new StringBuilder("public final class Examples {\n    static int wrong;\n");
        b.append("    static void due(String call, long got, long want) {\n        if (got != want) {\n            wrong++;\n");
        b.append("            System.out.println(call + \" answered \" + got + \", the page says \" + want);\n        }\n    }\n");
        b.append("    public static void main(String[] args) {\n");
        for (String line : exampleLines(blocks)) {
            Matcher m = ANSWERED.matcher(line);
            boolean answered = m.matches();
            holds("an answer is told: " + line, answered || MADE.contains(line));
            b.append("        ").append(answered ? dueLine(m.group(1), m.group(2)) : line).append('\n');
        }
        b.append("        System.exit(wrong == 0 ? 0 : 1);\n    }\n}\n");
        Files.writeString(room.resolve("Examples.java"), b);
        Ended run = shell("javac -d out -cp out Examples.java && java -cp out Examples", room);
        holds("the examples answer as the page says:\n" + run.told(), run.code() == 0 && run.told().isEmpty());
    }

    private static String dueLine(String call, String answer) {
        String want = Character.isLetter(answer.charAt(0)) ? "MoleMaps." + answer : answer;
        return "due(\"" + call.replace("\"", "'") + "\", " + call + ", " + want + ");";
    }

    private static void allCallsAreShown(String page, List<Block> blocks) {
        String shown = String.join("\n", exampleLines(blocks));
        for (Method m : MoleMaps.class.getDeclaredMethods()) {
            if (Modifier.isPublic(m.getModifiers())) {
                holds(m.getName() + "() is told in a table", page.contains("\n| `" + m.getName() + "("));
                holds(m.getName() + "() is shown in an example", shown.contains("x." + m.getName() + "("));
            }
        }
        for (String number : List.of("NONE", "UNKNOWN", "OUTSIDE", "STATE", "FULL")) {
            holds(number + " is told", page.contains(number + "` (-"));
            holds(number + " is shown", shown.contains("// " + number + ": "));
        }
    }

    // ---- its way to run the tests

    private static void allTestsAreNamed(String page) throws IOException {
        try (Stream<Path> files = Files.list(TESTS)) {
            for (Path file : files.toList()) {
                String name = file.getFileName().toString().replace(".java", "");
                boolean runs = Files.readString(file).contains("public static void main(");
                holds(name + " is run, if it can be", runs == name.endsWith("Test"));
                holds(name + " is named, if it is run", !runs || page.contains("- `" + name + "`: "));
            }
        }
    }

    /** In a project of probes the page's command runs each, and fails when one fails. */
    private static void wayToTest(List<Block> blocks, Path room) throws Exception {
        String command = block(blocks, "Tests", "sh").text();
        Path project = room.resolve("probes/project");
        Path shared = room.resolve("probes/shared/tests");
        Files.createDirectories(project.resolve(MAIN).getParent());
        Files.createDirectories(project.resolve(TESTS));
        Files.createDirectories(project.resolve(RUN).getParent());
        Files.createDirectories(shared);
        Files.copy(MAIN, project.resolve(MAIN));
        Files.copy(RUN, project.resolve(RUN));
        Path own = project.resolve(TESTS);
        probe(own, "OneTest", 0);
        probe(own, "TwoTest", 0);
        probe(shared, "SharedOne", 0);
        probe(shared, "SharedTwo", 0);
        Ended all = shell(command, project);
        check.due("exit code when all pass", all.code(), 0);
        for (String name : new TreeSet<>(Set.of("OneTest", "TwoTest", "SharedOne", "SharedTwo"))) {
            holds(name + " is run:\n" + all.told(), all.told().contains(name + " is run\n"));
        }
        fails(command, project, own, "OneTest");
        fails(command, project, shared, "SharedOne");
    }

    private static void fails(String command, Path project, Path where, String name) throws Exception {
        probe(where, name, 1);
        Ended run = shell(command, project);
        holds("it fails when " + name + " fails:\n" + run.told(), run.code() != 0 && run.told().contains("TwoTest is run\n"));
        probe(where, name, 0);
    }

    private static void probe(Path where, String name, int code) throws IOException {
        Files.writeString(where.resolve(name + ".java"), "public final class " + name
            + " {\n    public static void main(String[] args) {\n        System.out.println(\"" + name
            + " is run\");\n        System.exit(new MoleMaps().blank() + " + code + ");\n    }\n}\n");
    }

    // ---- commands

    /** What goes wrong within is told as it comes; what is asked for is what they print. */
    private static Ended shell(String commands, Path where) throws Exception {
        Process p = new ProcessBuilder("bash", "-e", "-c", commands).directory(where.toFile())
            .redirectError(ProcessBuilder.Redirect.INHERIT).start();
        p.getOutputStream().close();
        String told = new String(p.getInputStream().readAllBytes(), StandardCharsets.UTF_8);
        return new Ended(p.waitFor(), told);
    }

    private static void empty(Path room) throws IOException {
        try (Stream<Path> all = Files.walk(room)) {
            for (Path path : all.sorted(Comparator.reverseOrder()).toList()) {
                Files.delete(path);
            }
        }
    }
}
