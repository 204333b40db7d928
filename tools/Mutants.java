import java.io.File;
import java.io.IOException;
import java.nio.file.Files;
import java.nio.file.Path;
import java.util.ArrayList;
import java.util.Comparator;
import java.util.LinkedHashSet;
import java.util.List;
import java.util.Set;
import java.util.concurrent.ExecutorService;
import java.util.concurrent.Executors;
import java.util.concurrent.Future;
import java.util.concurrent.TimeUnit;
import java.util.regex.Matcher;
import java.util.regex.Pattern;
import java.util.stream.Stream;
import javax.tools.JavaCompiler;
import javax.tools.ToolProvider;

/**
 * Changes the class in one place at a time (a number by one, a comparison, a line left out) and tells which of these
 * no test notices. Not part of .ci/run: some survivors change no answer and have to be read. From the project's root:
 * java tools/Mutants.java TextBoundaryTest TermsBoundaryTest RefusedTest
 */
public final class Mutants {
    private static final String[][] SWAPS = {
        {"<=", "<"}, {">=", ">"}, {" < ", " <= "}, {" > ", " >= "}, {"==", "!="}, {"!=", "=="}, {"&&", "||"},
        {"||", "&&"}, {" + ", " - "}, {" - ", " + "}, {"++", "--"}, {"--", "++"}, {"!has", "has"}, {"!is", "is"},
        {"!may", "may"}, {"(!", "("}, {" * ", " + "}, {" % ", " / "}, {"|=", "="}, {"&=", "="},
    };

    private record Mutant(int line, String changed) {
    }

    public static void main(String[] args) throws Exception {
        List<String> lines = Files.readAllLines(Path.of("src/main/java/MasksAtDawn.java"));
        List<Mutant> mutants = new ArrayList<>();
        for (int line = 0; line < lines.size(); line++) {
            for (String changed : changesOf(lines.get(line))) {
                mutants.add(new Mutant(line, changed));
            }
        }
        Path room = Files.createTempDirectory("mutants");
        Path tests = compileTests(room);
        ExecutorService workers = Executors.newFixedThreadPool(Runtime.getRuntime().availableProcessors());
        List<Future<String>> answers = new ArrayList<>();
        for (int n = 0; n < mutants.size(); n++) {
            Mutant mutant = mutants.get(n);
            Path own = room.resolve("m" + n);
            answers.add(workers.submit(() -> answer(lines, mutant, own, tests, args)));
        }
        int survivors = 0, built = 0;
        for (int n = 0; n < mutants.size(); n++) {
            String answer = answers.get(n).get();
            built += answer.equals("no java") ? 0 : 1;
            if (answer.equals("survived")) {
                survivors++;
                Mutant mutant = mutants.get(n);
                System.out.println((mutant.line + 1) + ": " + lines.get(mutant.line).trim());
                System.out.println("      " + mutant.changed.trim());
            }
        }
        workers.shutdown();
        remove(room);
        System.out.println(built + " mutants, " + survivors + " survivors");
    }

    private static void remove(Path room) throws IOException {
        try (Stream<Path> files = Files.walk(room)) {
            files.sorted(Comparator.reverseOrder()).forEach(file -> file.toFile().delete());
        }
    }

    private static Set<String> changesOf(String line) {
        Set<String> changes = new LinkedHashSet<>();
        String code = line.trim();
        if (code.isEmpty() || code.startsWith("/") || code.startsWith("*") || code.contains("class ")) {
            return changes;
        }
        Matcher number = Pattern.compile("(?<![\\w.'])\\d+(?=L?\\b)").matcher(line);
        while (number.find()) {
            for (int by = -1; by <= 1; by += 2) {
                long other = Long.parseLong(number.group()) + by;
                changes.add(line.substring(0, number.start()) + other + line.substring(number.end()));
            }
        }
        for (String[] swap : SWAPS) {
            for (int at = line.indexOf(swap[0]); at >= 0; at = line.indexOf(swap[0], at + 1)) {
                changes.add(line.substring(0, at) + swap[1] + line.substring(at + swap[0].length()));
            }
        }
        if (code.startsWith("if (")) {
            changes.add(line.replaceFirst("if \\((.*)\\) \\{", "if (false && ($1)) {"));
            changes.add(line.replaceFirst("if \\((.*)\\) \\{", "if (true || ($1)) {"));
        } else if (code.endsWith(";") && !code.startsWith("return") && !code.startsWith("case")) {
            changes.add(";");
        }
        changes.remove(line);
        return changes;
    }

    private static Path compileTests(Path room) throws IOException {
        Path out = room.resolve("tests");
        List<String> options = new ArrayList<>(List.of("-d", out.toString(), "src/main/java/MasksAtDawn.java"));
        try (Stream<Path> files = Files.list(Path.of("src/test/java"))) {
            files.forEach(file -> options.add(file.toString()));
        }
        if (compile(options) != 0) {
            throw new IllegalStateException("the tests can't be compiled");
        }
        Files.delete(out.resolve("MasksAtDawn.class"));
        return out;
    }

    private static int compile(List<String> options) {
        JavaCompiler compiler = ToolProvider.getSystemJavaCompiler();
        return compiler.run(null, java.io.OutputStream.nullOutputStream(), java.io.OutputStream.nullOutputStream(),
            options.toArray(new String[0]));
    }

    private static String answer(List<String> lines, Mutant mutant, Path own, Path tests, String[] names)
            throws IOException, InterruptedException {
        Files.createDirectories(own);
        List<String> changed = new ArrayList<>(lines);
        changed.set(mutant.line, mutant.changed);
        Path file = own.resolve("MasksAtDawn.java");
        Files.write(file, changed);
        if (compile(List.of("-d", own.toString(), file.toString())) != 0) {
            return "no java";
        }
        for (String name : names) {
            Process process = new ProcessBuilder("java", "-XX:TieredStopAtLevel=1", "-cp",
                own + File.pathSeparator + tests, name)
                .redirectErrorStream(true).redirectOutput(ProcessBuilder.Redirect.DISCARD).start();
            if (!process.waitFor(60, TimeUnit.SECONDS)) {
                process.destroyForcibly();
                return "killed";
            }
            if (process.exitValue() != 0) {
                return "killed";
            }
        }
        return "survived";
    }
}
