import java.io.File;
import java.io.IOException;
import java.lang.reflect.Method;
import java.nio.file.Files;
import java.nio.file.Path;
import java.nio.file.Paths;
import java.util.ArrayList;
import java.util.Collections;
import java.util.List;
import java.util.regex.Matcher;
import java.util.regex.Pattern;
import java.util.stream.Collectors;
import java.util.stream.Stream;

/** That README.md holds: its lines of Java, its commands and what they print, its tables of LINES and of calls. */
public final class ReadmeTest extends Check {
    private static final Path README = Paths.get("README.md");
    private static final Pattern BLOCK = Pattern.compile("```(\\w+)\n(.*?)```\n", Pattern.DOTALL);

    /** A line of Java, and what it answers or throws. */
    private static final Pattern LINE = Pattern.compile("(x\\.\\w+\\(.*\\));\\s+// (-?\\d+|true|false|\\w+Exception): .*");

    /** A row of a table that begins with code. */
    private static final Pattern ROW = Pattern.compile("\n\\| `([^`]+)` \\|([^|]*)\\|(?:([^|\n]*)\\|)?");

    private static final String[] SHORT = {"index", "IndexOutOfBoundsException", "argument", "IllegalArgumentException",
        "state", "IllegalStateException", "element", "NoSuchElementException", "unsupported",
        "UnsupportedOperationException"};

    private ReadmeTest() {
    }

    public static void main(String[] args) throws Exception {
        String readme = text(README);
        Path room = Files.createTempDirectory("readme");
        try {
            linesOfJava(readme, room);
            commands(readme, room);
        } finally {
            delete(room);
        }
        linesOfTexts(readme);
        calls(readme);
        end("ReadmeTest");
    }

    private static List<String[]> blocks(String readme) {
        List<String[]> blocks = new ArrayList<>();
        Matcher m = BLOCK.matcher(readme);
        while (m.find()) {
            blocks.add(new String[] {m.group(1), m.group(2)});
        }
        return blocks;
    }

    // ---- the lines of Java are one program

    private static void linesOfJava(String readme, Path room) throws Exception {
        label = "lines of Java";
        StringBuilder methods = new StringBuilder();
        StringBuilder lines = new StringBuilder();
        int checked = 0;
        for (String[] block : blocks(readme)) {
            if (!block[0].equals("java")) {
                continue;
            }
            if (block[1].startsWith("static ")) {
                methods.append(block[1]);
                continue;
            }
            for (String line : block[1].split("\n")) {
                Matcher m = LINE.matcher(line);
                boolean asks = m.matches();
                checked += asks ? 1 : 0;
                lines.append(asks ? check(m.group(1), m.group(2)) : line).append('\n');
            }
        }
        due("there are lines to check", checked > 40, true);
        String program = "final class ReadmeLines extends Check {\n" + methods + "public static void main(String[] args) {\n"
                + "label = \"line\";\n" + lines + "end(\"README.md's lines of Java\");\n}\n}\n";
        Path source = room.resolve("ReadmeLines.java");
        Files.write(source, program.getBytes("UTF-8"));
        String classes = new File(System.getProperty("java.class.path")).getAbsolutePath();
        String compiled = run(room, "javac -cp '" + classes + "' -d . ReadmeLines.java");
        due("they are compiled: " + compiled, compiled != null, true);
        String printed = run(room, "java -cp '.:" + classes + "' ReadmeLines");
        due("each does as is said: " + printed, printed != null, true);
    }

    private static String check(String call, String due) {
        String quoted = "\"" + call.replace("\\", "\\\\").replace("\"", "\\\"") + "\"";
        if (due.endsWith("Exception")) {
            String type = due.equals("NoSuchElementException") ? "java.util." + due : due;
            return "refused(" + quoted + ", " + type + ".class, () -> " + call + ");";
        }
        return "due(" + quoted + ", " + call + ", " + due + ");";
    }

    // ---- the commands, in a copy of the project

    private static void commands(String readme, Path room) throws Exception {
        Path copy = room.resolve("copy");
        for (Path dir : new Path[] {Paths.get("src"), Paths.get(".ci")}) {
            copy(dir, copy);
        }
        Files.copy(README, copy.resolve("README.md"));
        Files.createSymbolicLink(room.resolve("shared"), Paths.get("../shared").toRealPath());
        String printed = "";
        int run = 0;
        for (String[] block : blocks(readme)) {
            label = "command";
            if (block[0].equals("text")) {
                due("it prints as is said:\n" + printed, printed.equals(block[1]), true);
            } else if (block[1].equals(".ci/run\n")) {
                // that is what runs this test
                due(".ci/run can be run", Files.isExecutable(copy.resolve(".ci/run")), true);
            } else if (block[0].equals("sh")) {
                printed = run(copy, block[1]);
                due("ends with 0: " + block[1], printed != null, true);
                printed = String.valueOf(printed);
                run++;
            }
        }
        due("there are commands", run > 3, true);
    }

    private static void copy(Path from, Path to) throws IOException {
        List<Path> files;
        try (Stream<Path> all = Files.walk(from)) {
            files = all.collect(Collectors.toList());
        }
        for (Path file : files) {
            Path place = to.resolve(file);
            Files.createDirectories(Files.isDirectory(file) ? place : place.getParent());
            if (!Files.isDirectory(file)) {
                Files.copy(file, place, java.nio.file.StandardCopyOption.COPY_ATTRIBUTES);
            }
        }
    }

    private static void delete(Path room) throws IOException {
        List<Path> files;
        try (Stream<Path> all = Files.walk(room)) {
            files = all.collect(Collectors.toList());
        }
        Collections.reverse(files);
        for (Path file : files) {
            Files.delete(file);
        }
    }

    /** What a command prints; null, and it is printed here, if it does not end with 0. */
    private static String run(Path where, String command) throws Exception {
        Process process = new ProcessBuilder("sh", "-e", "-c", command).directory(where.toFile())
                .redirectErrorStream(true).start();
        String printed = new String(process.getInputStream().readAllBytes(), "UTF-8");
        if (process.waitFor() != 0) {
            System.out.println(printed);
            return null;
        }
        return printed;
    }

    // ---- the tables

    private static void linesOfTexts(String readme) {
        label = "table of LINES";
        List<String> facts = new ArrayList<>();
        List<String> law = new ArrayList<>();
        Matcher row = ROW.matcher(readme);
        while (row.find()) {
            String code = row.group(1);
            if (code.matches("(judge|case|list|inn|hour|day) .*")) {
                facts.add(code);
            } else if (code.matches("(move|harden|crumb) .*")) {
                law.add(code);
            }
        }
        HungryBench x = town("case a grave 1;" + String.join(";", facts));
        due("LINES of THE ASSIZE", facts.size(), 6);
        int[] told = {x.judge(0, 1), x.judge(0, 2), x.judge(0, 0), x.judge(0, 3), x.cause(1, 0), x.cause(1, 1), x.cause(1, 2),
            x.cause(1, 3), x.listed(0, 6), x.smell(9), x.count(4), x.count(5)};
        int[] due = {10, 2, 30, 5, 1, 45, 8, 0, 1, 60, 3, 7};
        for (int i = 0; i < due.length; i++) {
            due("what they tell, " + i, told[i], due[i]);
        }
        due("LINES of THE LAW", rule(x, String.join(";", law)), 3);
        due("crumbs always", x.judge(0, 4), 0);
        x.inn(3, 20);
        due("crumbs always", x.judge(0, 4), 9);
    }

    private static void calls(String readme) {
        label = "table of calls";
        List<String> told = new ArrayList<>();
        Matcher row = ROW.matcher(readme);
        while (row.find()) {
            Matcher call = Pattern.compile("(\\w+)\\(([^)]*)\\)").matcher(row.group(1));
            if (call.matches()) {
                int parameters = call.group(2).isEmpty() ? 0 : call.group(2).split(", ").length;
                told.add(call.group(1) + " " + parameters + " " + row.group(3).replaceAll("\\([^)]*\\)", "").trim());
            }
        }
        List<String> face = new ArrayList<>();
        for (Method m : HungryBench.class.getDeclaredMethods()) {
            if (java.lang.reflect.Modifier.isPublic(m.getModifiers())) {
                face.add(m.getName() + " " + m.getParameterCount() + " " + thrown(m));
            }
        }
        Collections.sort(told);
        Collections.sort(face);
        alike("the face, sorted", told.stream().map(s -> s.replaceAll(" +,", ",").trim()).collect(Collectors.toList()),
                face.stream().map(String::trim).collect(Collectors.toList()));
    }

    private static String thrown(Method m) {
        List<String> names = new ArrayList<>();
        for (Class<?> type : m.getExceptionTypes()) {
            for (int i = 0; i < SHORT.length; i += 2) {
                if (SHORT[i + 1].equals(type.getSimpleName())) {
                    names.add(SHORT[i]);
                }
            }
        }
        return String.join(", ", names);
    }
}
