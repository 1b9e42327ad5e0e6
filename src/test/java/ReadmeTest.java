import java.io.IOException;
import java.net.URL;
import java.net.URLClassLoader;
import java.nio.file.Files;
import java.nio.file.Path;
import java.util.ArrayList;
import java.util.List;
import java.util.Map;
import java.util.Set;
import java.util.TreeMap;
import java.util.TreeSet;
import java.util.function.Supplier;
import java.util.regex.Matcher;
import java.util.regex.Pattern;
import java.util.stream.Stream;
import javax.tools.ToolProvider;

/** README.md: its examples answer what stands behind them, and its tables are whole and right. */
public final class ReadmeTest {
    private static final Map<Integer, String> REFUSALS = Map.of(HeldOnCross.UNKNOWN, "UNKNOWN", HeldOnCross.OUTSIDE, "OUTSIDE",
        HeldOnCross.NOT, "NOT", HeldOnCross.FULL, "FULL");
    /** What README.md tells of these in words: their bounds hang on the MOUNT, or there are none. */
    private static final Set<String> WITHOUT_BOUNDS = Set.of("worm i", "star s", "fits i", "nodded i", "shut is");

    private ReadmeTest() {
    }

    public static void main(String[] args) throws Exception {
        Path file = Path.of(args[2]);
        String readme = Files.readString(file);
        examples(readme);
        calls(readme);
        refusalNumbers(readme);
        toldNumbers(readme);
        names(readme, file.toAbsolutePath().getParent());
        Check.end("ReadmeTest");
    }

    // ---- examples

    /** All java blocks are one program; a line 'int name = ..; // 5: ..' must answer 5. */
    private static void examples(String readme) throws Exception {
        StringBuilder program = new StringBuilder("public final class ReadmeExample {\npublic static int[] answers() {\n");
        Matcher blocks = Pattern.compile("(?ms)^```java\n(.*?)^```$").matcher(readme);
        while (blocks.find()) {
            program.append(blocks.group(1));
        }
        List<String> names = new ArrayList<>();
        List<Integer> due = new ArrayList<>();
        Matcher lines = Pattern.compile("(?m)^int (\\w+) = [^/]*; *// (-?\\d+): .*$").matcher(program);
        while (lines.find()) {
            names.add(lines.group(1));
            due.add(Integer.parseInt(lines.group(2)));
        }
        long told = program.toString().lines().filter(line -> line.startsWith("int ")).count();
        Check.due("README's answers that are looked at", names.size(), told);
        Check.holds("README has examples", names.size() > 20);
        program.append("return new int[] {").append(String.join(", ", names)).append("};\n}\n}\n");
        int[] answers = answersOf(program.toString());
        Check.due("answers of README's example", answers.length, names.size());
        for (int i = 0; i < answers.length && i < names.size(); i++) {
            Check.due("README's example: " + names.get(i), answers[i], due.get(i));
        }
    }

    private static int[] answersOf(String program) throws Exception {
        Path folder = Files.createTempDirectory("readme");
        Path source = folder.resolve("ReadmeExample.java");
        Path made = folder.resolve("ReadmeExample.class");
        try {
            Files.writeString(source, program);
            int exit = ToolProvider.getSystemJavaCompiler().run(null, null, null, "-d", folder.toString(),
                "-cp", System.getProperty("java.class.path"), source.toString());
            Check.due("exit of javac for README's example", exit, 0);
            if (exit != 0) {
                return new int[0];
            }
            try (URLClassLoader loader = new URLClassLoader(new URL[] {folder.toUri().toURL()})) {
                return (int[]) loader.loadClass("ReadmeExample").getMethod("answers").invoke(null);
            }
        } finally {
            Files.deleteIfExists(source);
            Files.deleteIfExists(made);
            Files.delete(folder);
        }
    }

    // ---- tables

    private static void calls(String readme) {
        Set<String> told = new TreeSet<>();
        Matcher rows = Pattern.compile("(?m)^\\| `(\\w+)\\(([^)]*)\\)` \\|([^|]*)\\|([^|]*)\\|([^|]*)\\|$").matcher(readme);
        while (rows.find()) {
            String name = rows.group(1);
            Check.under("README's " + name + "()");
            Check.holds("it stands there once", told.add(name));
            if (Calls.ALL.stream().anyMatch(call -> call.name().equals(name))) {
                bounds(name, rows.group(2), rows.group(3));
                refusals(name, rows.group(5).trim());
            }
        }
        Check.under("README's calls");
        for (Calls.Call call : Calls.ALL) {
            Check.holds(call.name() + "() stands there", told.contains(nameInFace(call)));
        }
        Check.due("no other", told.size(), Calls.ALL.size() - 1);
    }

    /** shut(false) is a call of its own in Calls. */
    private static String nameInFace(Calls.Call call) {
        return call.name().equals("open") ? "shut" : call.name();
    }

    private static void bounds(String name, String parameters, String numbers) {
        Calls.Call call = Calls.named(name);
        Map<String, int[]> told = new TreeMap<>();
        Matcher one = Pattern.compile("(\\w+) (-?\\d+) \\.\\. (-?\\d+)").matcher(numbers);
        while (one.find()) {
            told.put(one.group(1), new int[] {Integer.parseInt(one.group(2)), Integer.parseInt(one.group(3))});
        }
        List<String> due = parameters.isEmpty() ? List.of() : List.of(parameters.split(", "));
        for (int i = 0; i < due.size(); i++) {
            int[] bounds = told.remove(due.get(i));
            Check.holds(due.get(i) + " has bounds", (bounds == null) == WITHOUT_BOUNDS.contains(name + " " + due.get(i)));
            if (bounds != null && i < call.bounds().length) {
                Check.due(due.get(i) + " at least", bounds[0], call.bounds()[i][0]);
                Check.due(due.get(i) + " at most", bounds[1], call.bounds()[i][1]);
            }
        }
        Check.due("bounds of numbers that the call has not", told.size(), 0);
        Check.due("how many numbers", due.size(), name.equals("shut") ? 1 : call.bounds().length);
    }

    /** All that the call refuses, in whatever state, and nothing else. */
    private static void refusals(String name, String told) {
        Set<Integer> found = new TreeSet<>((a, b) -> Integer.compare(b, a));
        Calls.Call call = Calls.named(name);
        for (Supplier<HeldOnCross> state : States.all().values()) {
            found.add(call.of(state.get()));
            for (int i = 0; i < call.bounds().length; i++) {
                if (call.hasBounds(i)) {
                    found.add(call.act().of(state.get(), call.with(i, call.bounds()[i][0] - 1)));
                    found.add(call.act().of(state.get(), call.with(i, call.bounds()[i][1] + 1)));
                }
            }
        }
        List<String> words = new ArrayList<>();
        for (int answer : found) {
            if (REFUSALS.containsKey(answer)) {
                words.add(REFUSALS.get(answer));
            }
        }
        String refused = String.join(", ", words);
        Check.holds("it refuses '" + refused + "', README says '" + told + "'", told.equals(refused));
    }

    private static void refusalNumbers(String readme) {
        Check.under("README's refusals");
        for (Map.Entry<Integer, String> one : REFUSALS.entrySet()) {
            Check.holds(one.getValue(), readme.contains("\n| `" + one.getValue() + "` | " + one.getKey() + " | "));
        }
    }

    private static void toldNumbers(String readme) {
        Check.under("README's told()");
        int next = 0;
        Matcher rows = Pattern.compile("(?m)^\\| (\\d+) \\| .* \\|$").matcher(readme);
        while (rows.find()) {
            Check.due("the next row", Integer.parseInt(rows.group(1)), next);
            next++;
        }
        Check.due("the first that is not told", new HeldOnCross().told(next), HeldOnCross.OUTSIDE);
        Check.holds("the last is told", new HeldOnCross().told(next - 1) != HeldOnCross.OUTSIDE);
    }

    /** No class inside and no test may be missing, and none may stand there that is gone. */
    private static void names(String readme, Path root) throws IOException {
        Set<String> due = new TreeSet<>();
        for (Class<?> inside : HeldOnCross.class.getDeclaredClasses()) {
            due.add(inside.getSimpleName());
        }
        try (Stream<Path> files = Files.list(root.resolve("src/test/java"))) {
            files.map(file -> file.getFileName().toString()).filter(name -> name.endsWith("Test.java"))
                .forEach(name -> due.add(name.substring(0, name.length() - ".java".length())));
        }
        Set<String> told = new TreeSet<>();
        Matcher rows = Pattern.compile("(?m)^\\| `([A-Z][a-z]\\w*)` \\| .* \\|$").matcher(readme);
        while (rows.find()) {
            told.add(rows.group(1));
        }
        Check.under("README's classes and tests");
        Check.holds(told + " are told, there are " + due, told.equals(due));
    }
}
