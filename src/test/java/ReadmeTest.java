import java.io.File;
import java.io.IOException;
import java.lang.reflect.Method;
import java.lang.reflect.Modifier;
import java.net.URL;
import java.net.URLClassLoader;
import java.nio.file.Files;
import java.nio.file.Path;
import java.util.ArrayList;
import java.util.List;
import java.util.Set;
import java.util.TreeSet;
import java.util.regex.Matcher;
import java.util.regex.Pattern;
import java.util.stream.Collectors;
import java.util.stream.Stream;
import javax.tools.JavaCompiler;
import javax.tools.ToolProvider;

/** What README.md shows of the class is what the class answers: its calls are compiled and run as they stand there. */
public final class ReadmeTest {
    private static final Path README = Path.of("README.md");
    private static final Pattern SHOWN = Pattern.compile(
        "(?:int (\\w+) = )?(.+?);\\s*// (-?\\d+|NONE|true|false|\"[^\"]*\")(?![\\w\"]).*");
    private static final String NEW_ONE = "MadeMended x = new MadeMended();";
    private static int wrong = 0;
    private static int answers = 0;

    public static void main(String[] args) throws Exception {
        List<String> lines = Files.readAllLines(README);
        Program shown = program(lines);
        run(shown);
        everyMethodIsShown(shown.members.toString() + shown.statements);
        itemsAreAsTheTableSays(lines);
        callsAreAsTheTableSays(lines);
        namesStand(lines);
        System.out.println(wrong == 0 ? "README.md shows what the class answers" : wrong + " are wrong");
        System.out.println("answers shown: " + answers);
        if (wrong != 0) {
            System.exit(1);
        }
    }

    private static void hold(boolean holds, String what) {
        if (!holds) {
            wrong++;
            System.out.println(what);
        }
    }

    // ---- the calls

    private static final class Program {
        final StringBuilder members = new StringBuilder();
        final StringBuilder statements = new StringBuilder();
    }

    /** Blocks that begin with "static" are methods of the reader's own, the others are one run of calls. */
    private static Program program(List<String> lines) {
        Program shown = new Program();
        for (int i = 0; i < lines.size(); i++) {
            if (lines.get(i).startsWith("```")) {
                hold(lines.get(i).equals("```java"), "line " + (i + 1) + " begins a block that nobody runs");
                boolean isMember = i + 1 < lines.size() && lines.get(i + 1).startsWith("static ");
                for (i++; i < lines.size() && !lines.get(i).equals("```"); i++) {
                    if (isMember) {
                        shown.members.append(counting(lines.get(i))).append('\n');
                    } else {
                        addStatement(shown.statements, lines.get(i), i + 1);
                    }
                }
            }
        }
        return shown;
    }

    private static void addStatement(StringBuilder statements, String line, int number) {
        if (line.equals(NEW_ONE)) {
            statements.append(line).append(" calls = 0;\n");
            return;
        }
        Matcher m = SHOWN.matcher(line);
        if (!m.matches()) {
            hold(line.isBlank(), "line " + number + " names no answer: " + line);
            return;
        }
        answers++;
        String call = counting(m.group(2));
        String got = call;
        if (m.group(1) != null) {
            statements.append("int ").append(m.group(1)).append(" = ").append(call).append(";\n");
            got = m.group(1);
        }
        String due = m.group(3).equals("NONE") ? "MadeMended.NONE" : m.group(3);
        statements.append("due(").append(number).append(", ").append(got).append(", ").append(due).append(");\n");
    }

    private static String counting(String code) {
        return code.replaceAll("\\bx\\.", "counted(x).");
    }

    private static void run(Program shown) throws Exception {
        String source = "public final class Shown {\n"
            + "private static int calls = 0;\n"
            + "private static final java.util.List<String> found = new java.util.ArrayList<>();\n"
            + "private static MadeMended counted(MadeMended x) { calls++; return x; }\n"
            + "private static void due(int line, Object got, Object due) {\n"
            + "if (!got.equals(due)) {\n"
            + "found.add(\"line \" + line + \": answered \" + got + \", README.md says \" + due); }\n"
            + "if (calls > 512) { found.add(\"line \" + line + \": call \" + calls + \" of one object\"); } }\n"
            + shown.members
            + "public static java.util.List<String> run() {\n" + shown.statements + "return found;\n}\n}\n";
        Path dir = Files.createTempDirectory("readme");
        try {
            runIn(dir, source);
        } finally {
            removeAll(dir);
        }
    }

    private static void runIn(Path dir, String source) throws Exception {
        Path file = Files.writeString(dir.resolve("Shown.java"), source);
        JavaCompiler compiler = ToolProvider.getSystemJavaCompiler();
        String classPath = System.getProperty("java.class.path");
        boolean compiles = compiler != null && compiler.run(null, System.out, System.out,
            "--release", "17", "-proc:none", "-cp", classPath, "-d", dir.toString(), file.toString()) == 0;
        hold(compiles, "what README.md shows does not compile");
        if (!compiles) {
            return;
        }
        try (URLClassLoader loader = new URLClassLoader(new URL[] {dir.toUri().toURL()})) {
            List<?> found = (List<?>) loader.loadClass("Shown").getMethod("run").invoke(null);
            for (Object each : found) {
                hold(false, each.toString());
            }
        }
    }

    private static void removeAll(Path dir) throws IOException {
        try (Stream<Path> files = Files.list(dir)) {
            for (Path file : files.collect(Collectors.toList())) {
                Files.delete(file);
            }
        }
        Files.delete(dir);
    }

    private static void everyMethodIsShown(String code) {
        for (Method m : MadeMended.class.getDeclaredMethods()) {
            if (Modifier.isPublic(m.getModifiers())) {
                hold(code.contains("counted(x)." + m.getName() + "("), "README.md shows no call of " + m.getName());
            }
        }
    }

    // ---- the tables

    /** The cells of the table whose head begins with a word, row by row. */
    private static List<String[]> table(List<String> lines, String head) {
        List<String[]> rows = new ArrayList<>();
        int at = 0;
        while (at < lines.size() && !lines.get(at).startsWith("| " + head + " ")) {
            at++;
        }
        for (at += 2; at < lines.size() && lines.get(at).startsWith("| "); at++) {
            rows.add(lines.get(at).substring(1).split("\\|"));
        }
        hold(!rows.isEmpty(), "README.md has no table of " + head);
        return rows;
    }

    private static List<String> quoted(String text) {
        List<String> found = new ArrayList<>();
        Matcher m = Pattern.compile("`([^`]+)`").matcher(text);
        while (m.find()) {
            found.add(m.group(1));
        }
        return found;
    }

    private static void itemsAreAsTheTableSays(List<String> lines) {
        int sorts = 0;
        for (String[] row : table(lines, "written")) {
            for (String item : quoted(row[0])) {
                oneItem(item, row[2].trim());
                sorts += row[2].isBlank() ? 0 : 1;
            }
        }
        hold(sorts >= 5, "the table of items names " + sorts + " with a sort");
    }

    private static void oneItem(String item, String sort) {
        MadeMended x = new MadeMended();
        write(x, "N");
        x.thing(0, MadeMended.NONE);
        boolean opens = item.startsWith("<?");
        boolean closes = item.equals("<!>");
        write(x, closes ? "<?0>" + item : opens ? item + "<!>" : item);
        hold(x.rule(0) == (opens || closes ? 2 : 1), item + " is not one item");
        hold(x.make() == (sort.isEmpty() ? 0 : 1), item + " makes " + x.about(1) + " pieces");
        hold(sort.isEmpty() || x.piece(0, 2) == Integer.parseInt(sort), item + " has the sort " + x.piece(0, 2));
    }

    private static void write(MadeMended x, String s) {
        int[] fours = new int[5];
        for (int i = 0; i < s.length(); i++) {
            fours[i / 4] |= s.charAt(i) << 24 - i % 4 * 8;
        }
        x.feed(fours[0], fours[1], fours[2], fours[3], fours[4]);
        x.end(s.length());
    }

    private static void callsAreAsTheTableSays(List<String> lines) {
        Set<String> told = new TreeSet<>();
        for (String[] row : table(lines, "call")) {
            for (String call : quoted(row[0])) {
                told.add(call.replaceAll("(int|boolean) \\w+(?=[,)])", "$1"));
            }
        }
        Set<String> stand = new TreeSet<>();
        for (Method m : MadeMended.class.getDeclaredMethods()) {
            if (Modifier.isPublic(m.getModifiers())) {
                List<String> types = new ArrayList<>();
                for (Class<?> type : m.getParameterTypes()) {
                    types.add(type.getName());
                }
                stand.add(m.getReturnType() + " " + m.getName() + "(" + String.join(", ", types) + ")");
            }
        }
        hold(told.equals(stand), "the table of calls has " + told + ", the class has " + stand);
    }

    // ---- the names

    private static void namesStand(List<String> lines) throws IOException {
        Set<String> tests = new TreeSet<>();
        for (String line : lines) {
            for (String name : quoted(line)) {
                boolean isPath = name.matches("[\\w./]+/[\\w./]+");
                hold(!isPath || Files.exists(Path.of(name)), "README.md names " + name + ", which is not there");
                if (line.startsWith("- ") && name.endsWith("Test")) {
                    tests.add(name + ".java");
                }
            }
        }
        String[] files = new File("src/test/java").list();
        hold(files != null && tests.equals(new TreeSet<>(List.of(files))), "README.md lists the tests " + tests);
        boolean runs = lines.contains("    .ci/run") && Files.isExecutable(Path.of(".ci/run"));
        hold(runs, ".ci/run is not shown, or not there");
        hold(String.join(" ", lines).contains("`NONE` (" + MadeMended.NONE + ")"), "README.md names another NONE");
    }
}
