import java.io.IOException;
import java.nio.charset.StandardCharsets;
import java.nio.file.Files;
import java.nio.file.Path;
import java.util.ArrayList;
import java.util.List;
import java.util.TreeSet;
import java.util.concurrent.ExecutorService;
import java.util.concurrent.Executors;
import java.util.concurrent.Future;
import java.util.concurrent.TimeUnit;
import java.util.regex.Matcher;
import java.util.regex.Pattern;
import javax.tools.ToolProvider;

/**
 * Breaks the class in one place after the other and looks which edges fail: no test of .ci/run, as it takes minutes.
 * Tells the broken copies that no edge notices, and the edges that no broken copy fails.
 */
public final class Mutants {
    private static final Path SOURCE = Path.of("src/main/java/ShakenParcels.java");
    private static final Path OUT = Path.of("build/mutants");
    private static final int MOST_SECONDS = 30;

    /** What is looked for, what comes in its place. */
    private static final String[][] SWAPS = {
        {" < ", " <= "}, {" <= ", " < "}, {" > ", " >= "}, {" >= ", " > "}, {" == ", " != "}, {" != ", " == "}, {" < ", " > "}, {" > ", " < "},
        {" + ", " - "}, {" - ", " + "}, {" * ", " + "}, {" / ", " % "}, {" % ", " / "}, {" && ", " || "}, {" || ", " && "},
        {" & ", " | "}, {" | ", " & "}, {"++", "--"}, {" += ", " -= "}, {" |= ", " &= "}, {" &= ", " |= "}, {" *= ", " += "},
        {"true", "false"}, {"false", "true"}, {"Math.max", "Math.min"}, {"Math.min", "Math.max"}, {"Math.abs", ""}, {"(!", "("}, {"~", ""},
        {"BAD", "NO"}, {"BAD", "NONE"}, {"NO", "BAD"}, {"NO", "NONE"}, {"FULL", "BAD"}, {"FULL", "NO"}, {"NONE", "BAD"}, {"NONE", "NO"},
        {"SOFT", "SLIDING"}, {"SLIDING", "ROLLING"}, {"ROLLING", "SLIDING"}, {"WEIGH", "TIP"},
        {"at(now.hidden, p)", "0"}, {"now.truth", "tree.told"}, {"findRemaining()", "all"}};

    private record Mutant(int number, int line, String before, String after) {
        @Override
        public String toString() {
            return "line " + line + ": " + before.strip() + "  =>  " + after.strip();
        }
    }

    /** How a copy fared: whether it was compiled, and which edges failed; none of these if it did not end. */
    private record Fate(Mutant mutant, boolean compiled, boolean noticed, List<Integer> edges) { }

    private Mutants() { }

    public static void main(String[] args) throws Exception {
        if (args.length > 0 && args[0].equals("edges")) {
            tellFailing();
            return;
        }
        List<String> lines = Files.readAllLines(SOURCE);
        List<Mutant> mutants = mutants(lines);
        ExecutorService workers = Executors.newFixedThreadPool(Math.max(1, Runtime.getRuntime().availableProcessors()));
        List<Future<Fate>> fates = new ArrayList<>();
        for (Mutant mutant : mutants) {
            fates.add(workers.submit(() -> tryOne(lines, mutant)));
        }
        report(fates);
        workers.shutdown();
    }

    /** Run against a broken copy: the numbers of the edges that fail. */
    private static void tellFailing() {
        Edges edges = Edges.all();
        List<String> names = edges.names();
        java.io.PrintStream out = System.out;
        System.setOut(new java.io.PrintStream(java.io.OutputStream.nullOutputStream()));
        List<String> failing = edges.failing(new Checks());
        for (String name : failing) {
            out.println(names.indexOf(name));
        }
        out.println("end");
    }

    // ---- what is broken

    private static List<Mutant> mutants(List<String> lines) {
        List<Mutant> list = new ArrayList<>();
        for (int i = 0; i < lines.size(); i++) {
            String line = lines.get(i);
            if (line.isBlank() || line.strip().startsWith("/**") || line.strip().startsWith("//") || line.startsWith("import")) {
                continue;
            }
            TreeSet<String> others = new TreeSet<>();
            addSwaps(line, others);
            addNumbers(line, others);
            addWhole(line, others);
            others.remove(line);
            for (String other : others) {
                list.add(new Mutant(list.size(), i + 1, line, other));
            }
        }
        return list;
    }

    private static void addSwaps(String line, TreeSet<String> others) {
        for (String[] swap : SWAPS) {
            boolean word = Character.isLetter(swap[0].charAt(0));
            Matcher found = Pattern.compile(word ? "\\b" + Pattern.quote(swap[0]) : Pattern.quote(swap[0])).matcher(line);
            while (found.find()) {
                others.add(line.substring(0, found.start()) + swap[1] + line.substring(found.end()));
            }
        }
    }

    private static void addNumbers(String line, TreeSet<String> others) {
        Matcher found = Pattern.compile("(?<![A-Za-z_0-9])[0-9]+").matcher(line.replaceAll("(?<=\")([a-z])(?=[0-9])", " ").replaceAll(";[a-z](?=[0-9])", "; "));
        while (found.find()) {
            int number = Integer.parseInt(found.group());
            for (int other : new int[] {number - 1, number + 1}) {
                others.add(line.substring(0, found.start()) + other + line.substring(found.end()));
            }
        }
    }

    /** A condition the other way, a statement left out. */
    private static void addWhole(String line, TreeSet<String> others) {
        Matcher condition = Pattern.compile("^(\\s*if )\\((.*)\\) \\{$").matcher(line);
        if (condition.matches()) {
            others.add(condition.group(1) + "(!(" + condition.group(2) + ")) {");
            others.add(condition.group(1) + "(false && (" + condition.group(2) + ")) {");
        }
        if (line.matches("^\\s{8,}[^=]*\\);$") || line.matches("^\\s{8,}[a-zA-Z.\\[\\]]+ [-+*|&]?= .*;$") || line.matches("^\\s{8,}[a-z.]+(\\+\\+|--);$")) {
            others.add("        ;");
        }
        Matcher choice = Pattern.compile("^(.*) \\? (.*) : (.*);$").matcher(line);
        if (choice.matches()) {
            others.add(choice.group(1) + " ? " + choice.group(3) + " : " + choice.group(2) + ";");
        }
    }

    // ---- how it fares

    private static Fate tryOne(List<String> lines, Mutant mutant) throws Exception {
        Path place = OUT.resolve("" + mutant.number);
        Files.createDirectories(place);
        List<String> broken = new ArrayList<>(lines);
        broken.set(mutant.line - 1, mutant.after);
        Path file = place.resolve("ShakenParcels.java");
        Files.write(file, broken);
        int compiled = ToolProvider.getSystemJavaCompiler().run(null, java.io.OutputStream.nullOutputStream(), java.io.OutputStream.nullOutputStream(),
                "-nowarn", "-d", place.toString(), file.toString());
        if (compiled != 0) {
            return new Fate(mutant, false, false, List.of());
        }
        return run(mutant, place);
    }

    private static Fate run(Mutant mutant, Path place) throws IOException, InterruptedException {
        Path told = place.resolve("told");
        String path = place + ":" + System.getProperty("java.class.path");
        Process process = new ProcessBuilder("java", "-XX:TieredStopAtLevel=1", "-cp", path, "Mutants", "edges")
                .redirectOutput(told.toFile()).redirectError(ProcessBuilder.Redirect.DISCARD).start();
        if (!process.waitFor(MOST_SECONDS, TimeUnit.SECONDS)) {
            process.destroyForcibly();
            return new Fate(mutant, true, true, List.of());
        }
        List<Integer> edges = new ArrayList<>();
        boolean ended = false;
        for (String line : Files.readAllLines(told, StandardCharsets.UTF_8)) {
            if (line.equals("end")) {
                ended = true;
            } else {
                edges.add(Integer.valueOf(line));
            }
        }
        return new Fate(mutant, true, !ended || !edges.isEmpty(), edges);
    }

    private static void report(List<Future<Fate>> fates) throws Exception {
        List<String> names = Edges.all().names();
        int[] failed = new int[names.size()];
        int compiled = 0;
        int noticed = 0;
        for (Future<Fate> future : fates) {
            Fate fate = future.get();
            compiled += fate.compiled ? 1 : 0;
            noticed += fate.noticed ? 1 : 0;
            if (fate.compiled && !fate.noticed) {
                System.out.println("unnoticed: " + fate.mutant);
            }
            for (int edge : fate.edges) {
                failed[edge]++;
            }
        }
        for (int i = 0; i < failed.length; i++) {
            if (failed[i] == 0) {
                System.out.println("never fails: " + names.get(i));
            }
        }
        System.out.println(compiled + " broken copies, " + noticed + " noticed");
    }
}
