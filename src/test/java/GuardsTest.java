import java.lang.reflect.InvocationTargetException;
import java.lang.reflect.Method;
import java.nio.file.Files;
import java.nio.file.Path;
import java.util.Arrays;
import java.util.List;
import java.util.Map;
import java.util.Set;
import java.util.TreeMap;
import java.util.TreeSet;
import java.util.regex.Matcher;
import java.util.regex.Pattern;

/** Rules 7 and 9 of ../shared/LANGUAGE.md: what could make the machine throw stands in few places, and every loop counts towards a bound. */
public final class GuardsTest {
    private static final Path SOURCE = Path.of("src/main/java/ShakenParcels.java");

    /** Who uses an index without at, put or raise, and why that can not go wrong; a new one has to be looked at and put here. */
    private static final Map<String, String> INDEXED = Map.ofEntries(
            Map.entry("ShakenParcels.at", "the index is looked at"),
            Map.entry("ShakenParcels.put", "the index is looked at"),
            Map.entry("ShakenParcels.raise", "the index is looked at"),
            Map.entry("ShakenParcels.guess", "counts from 1 to the row's length, which is 256; 0 is in it"),
            Map.entry("ShakenParcels.sumChances", "the index is bits 0 to 7, and is looked at"),
            Map.entry("ShakenParcels$Text.add", "the length only counts up, and is looked at"),
            Map.entry("ShakenParcels$Text.letterAt", "the index is looked at"),
            Map.entry("ShakenParcels$Worlds.add", "the size only counts up or is a smaller one, and is looked at"),
            Map.entry("ShakenParcels$Scenes.<init>", "counts to the row's length"),
            Map.entry("ShakenParcels$Scenes.push", "the size is looked at"),
            Map.entry("ShakenParcels$Scenes.dropLowest", "counts from 1 to the row's length, which is looked at"),
            Map.entry("ShakenParcels$Scenes.popInto", "the size is looked at"),
            Map.entry("ShakenParcels$Finder.countReplies", "counts from 1 to the row's length"),
            Map.entry("ShakenParcels$Finder.group", "counts from 1 to the row's length"));

    /** Who divides by what is no constant; each looks whether it is 0. */
    private static final Set<String> DIVIDING = Set.of("ShakenParcels.morning", "ShakenParcels.inLowestTerms", "ShakenParcels$Tree.inSteps");

    /** Who makes a row of a length that is no constant: not below 0, and longer than a row that is there. */
    private static final Set<String> LENGTHS = Set.of("ShakenParcels$Scenes.<init>", "ShakenParcels$Worlds.makeRoom");

    private static final Pattern CONSTANT = Pattern.compile("[il]const_\\d|[bs]ipush|ldc2?(_w)?");
    private static final Pattern LOOP = Pattern.compile("^( *)for \\(int (\\w+) = ([^;]+); \\2 (<=?) ([^;]+); \\2\\+\\+\\) \\{$");
    private static final int[] ODD = {Integer.MIN_VALUE, Integer.MIN_VALUE + 1, -65536, -3, -2, -1, 3, 4, 5, 256, 65536, Integer.MAX_VALUE - 1, Integer.MAX_VALUE};

    private static final Checks CHECKS = new Checks();

    private GuardsTest() { }

    public static void main(String[] args) throws Exception {
        List<Compiled.Code> methods = Compiled.methods();
        users(methods);
        rows();
        int jumps = methods.stream().mapToInt(GuardsTest::jumpsBack).sum();
        CHECKS.due("rule 9: loops that are compiled, against those that are read", jumps, loops(Files.readAllLines(SOURCE)));
        CHECKS.end();
    }

    private static void users(List<Compiled.Code> methods) {
        Map<String, Set<String>> found = new TreeMap<>(Map.of("index", new TreeSet<>(), "divisor", new TreeSet<>(), "length", new TreeSet<>()));
        for (Compiled.Code method : methods) {
            Compiled.Step before = null;
            for (Compiled.Step step : method.steps()) {
                boolean constant = before != null && CONSTANT.matcher(before.name()).matches();
                if (step.name().matches("[ilfdabcs]a(load|store)")) {
                    found.get("index").add(method.whole());
                }
                if (step.name().matches("[il](div|rem)") && !constant) {
                    found.get("divisor").add(method.whole());
                }
                if (step.name().matches("a?newarray") && !constant) {
                    found.get("length").add(method.whole());
                }
                before = step;
            }
        }
        CHECKS.holds("rule 7: an index is used in " + found.get("index"), found.get("index").equals(INDEXED.keySet()));
        CHECKS.holds("rule 7: a divisor is used in " + found.get("divisor"), found.get("divisor").equals(DIVIDING));
        CHECKS.holds("rule 7: a length is used in " + found.get("length"), found.get("length").equals(LENGTHS));
    }

    /** What nearly all rows go through answers 0 and changes nothing beside the row. */
    private static void rows() throws Exception {
        for (int i : ODD) {
            int[] row = {5, 6, 7};
            CHECKS.due("at " + i, (int) call("at", new Class<?>[] {int[].class, int.class}, row, i), 0);
            call("put", new Class<?>[] {int[].class, int.class, int.class}, row, i, 9);
            call("raise", new Class<?>[] {int[].class, int.class, int.class}, row, i, 9);
            CHECKS.holds("put and raise " + i + " change nothing", Arrays.equals(row, new int[] {5, 6, 7}));
        }
        for (int i = 0; i < 3; i++) {
            int[] row = {5, 6, 7};
            call("put", new Class<?>[] {int[].class, int.class, int.class}, row, i, 1);
            call("raise", new Class<?>[] {int[].class, int.class, int.class}, row, i, 9);
            CHECKS.due("at " + i, (int) call("at", new Class<?>[] {int[].class, int.class}, row, i), 10);
            CHECKS.due("all of it", Arrays.stream(row).sum(), 18 - (5 + i) + 10);
        }
    }

    private static Object call(String name, Class<?>[] types, Object... given) throws Exception {
        Method method = ShakenParcels.class.getDeclaredMethod(name, types);
        method.setAccessible(true);
        try {
            return method.invoke(null, given);
        } catch (InvocationTargetException thrown) {
            CHECKS.holds(name + " threw " + thrown.getCause(), false);
            return 0;
        }
    }

    private static int jumpsBack(Compiled.Code method) {
        int back = 0;
        for (Compiled.Step step : method.steps()) {
            if (step.name().matches("goto(_w)?|if.*") && Integer.parseInt(step.given()) <= step.place()) {
                back++;
            }
        }
        return back;
    }

    /** How many loops there are, each of which has to count up to a bound that its lines leave as it is. */
    private static int loops(List<String> lines) {
        int found = 0;
        for (int i = 0; i < lines.size(); i++) {
            String line = lines.get(i);
            CHECKS.holds("rule 9: neither while nor do: " + line, !line.matches(".*\\b(while|do)\\b *[({].*"));
            if (!line.matches(".*\\bfor \\(.*")) {
                continue;
            }
            found++;
            Matcher loop = LOOP.matcher(line);
            CHECKS.holds("rule 9: a counter against a bound: " + line, loop.matches());
            if (loop.matches()) {
                body(line, loop.group(2), loop.group(5), inside(lines, i, loop.group(1) + "}"));
            }
        }
        return found;
    }

    private static String inside(List<String> lines, int head, String end) {
        int last = head;
        while (last < lines.size() && !lines.get(last).equals(end)) {
            last++;
        }
        return String.join("\n", lines.subList(head + 1, last));
    }

    /** Where a constant bounds a loop, what stands behind && may change. */
    private static void body(String head, String counter, String bound, String lines) {
        CHECKS.holds("rule 9: the counter is left as it is: " + head, !changes(lines, counter));
        String first = bound.split(" && ")[0];
        CHECKS.holds("rule 9: only a constant stands ahead of &&: " + head, first.equals(bound) || first.matches("[A-Z_]+"));
        Matcher name = Pattern.compile("[a-z][\\w.]*").matcher(first);
        while (name.find()) {
            CHECKS.holds("rule 9: the bound is left as it is: " + head, !changes(lines, name.group()));
            if (name.group().endsWith("size")) {
                String list = name.group().substring(0, name.group().length() - "size".length());
                CHECKS.holds("rule 9: the list is left as it is: " + head, !Pattern.compile("(?<![\\w.])" + Pattern.quote(list) + "(add|clear|copy|makeRoom|narrow)\\(").matcher(lines).find());
            }
        }
    }

    private static boolean changes(String lines, String name) {
        String whole = "(?<![\\w.])" + Pattern.quote(name);
        return Pattern.compile(whole + " *([-+*/%&|^]|<<|>>>?)?=(?!=)|" + whole + "(\\+\\+|--)|(\\+\\+|--)" + Pattern.quote(name) + "\\b").matcher(lines).find();
    }
}
