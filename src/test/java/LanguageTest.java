import java.lang.reflect.Field;
import java.lang.reflect.Modifier;
import java.nio.file.Files;
import java.nio.file.Path;
import java.util.ArrayList;
import java.util.HashMap;
import java.util.List;
import java.util.Map;
import java.util.Set;
import java.util.TreeSet;
import java.util.regex.Matcher;
import java.util.regex.Pattern;

/** The rules of ../shared/LANGUAGE.md that can be seen from what the class is compiled to, and how long its methods are. */
public final class LanguageTest {
    private static final Path SOURCE = Path.of("src/main/java/ShakenParcels.java");
    private static final int MOST_DEEP = 8;
    private static final int MOST_LINES = 60;
    /** Rule 4: what is used of the library, all of which stands there. */
    private static final Set<String> LIBRARY = Set.of("java/lang/Object.<init>", "java/lang/String.length", "java/lang/String.charAt", "java/lang/Math.max",
            "java/lang/Math.min", "java/lang/Math.abs", "java/lang/Integer.compare", "java/lang/Integer.bitCount", "java/lang/System.arraycopy", "java/util/Arrays.fill");
    private static final Set<String> FORBIDDEN = Set.of("athrow", "monitorenter", "monitorexit", "invokedynamic", "invokeinterface", "checkcast", "instanceof",
            "multianewarray", "jsr", "ret");
    private static final Pattern CALLED = Pattern.compile("(?:Interface)?Method ([^:]*):.*");

    private static final Checks CHECKS = new Checks();
    private static final Map<String, Set<String>> CALLS = new HashMap<>();
    private static final Set<String> LONE = new TreeSet<>();
    private static final Set<String> MAKERS = new TreeSet<>();

    private LanguageTest() { }

    public static void main(String[] args) throws Exception {
        CHECKS.holds("rule 11: some twelve classes", Compiled.classes().size() <= 12);
        for (Class<?> one : Compiled.classes()) {
            fields(one);
        }
        for (Compiled.Code method : Compiled.methods()) {
            code(method);
        }
        calls();
        makers();
        lengths();
        CHECKS.end();
    }

    private static void fields(Class<?> one) {
        int own = 0;
        for (Field field : one.getDeclaredFields()) {
            Class<?> type = field.getType();
            if (Modifier.isStatic(field.getModifiers())) {
                CHECKS.holds("rule 5: a constant: " + field, Modifier.isFinal(field.getModifiers())
                        && (type == int.class || type == long.class || type == boolean.class || type == char.class || type == String.class));
            } else {
                own++;
                CHECKS.holds("rule 3: a field of a kind that may be: " + field, type.isPrimitive() || type.getName().startsWith("ShakenParcels$")
                        || type.isArray() && (type.getComponentType().isPrimitive() || type.getComponentType().getName().startsWith("ShakenParcels$")));
            }
        }
        CHECKS.holds("rule 11: some twenty fields: " + one, own <= 20);
    }

    /** Looks at each of a method's instructions; notes whom it calls. */
    private static void code(Compiled.Code method) {
        CALLS.computeIfAbsent(method.whole(), m -> new TreeSet<>());
        CHECKS.holds("rule 6: no try: " + method.whole(), !method.catching());
        if (method.lone()) {
            LONE.add(method.whole());
        }
        for (Compiled.Step step : method.steps()) {
            look(method, step);
        }
    }

    private static void look(Compiled.Code method, Compiled.Step step) {
        CHECKS.holds("rules 2, 3 and 6: " + method.whole() + " is without " + step.name(), !FORBIDDEN.contains(step.name()));
        if ((step.name().equals("new") || step.name().endsWith("newarray")) && !method.name().equals("<init>")) {
            MAKERS.add(method.whole());
        }
        Matcher called = CALLED.matcher(step.said());
        if (!called.matches()) {
            return;
        }
        String name = called.group(1).replace("\"", "");
        if (name.startsWith("java/")) {
            CHECKS.holds("rule 4: " + method.whole() + " uses " + name, LIBRARY.contains(name));
        } else {
            CALLS.get(method.whole()).add(name.contains(".") ? name : method.owner() + "." + name);
        }
    }

    private static void calls() {
        CHECKS.holds("methods were found", CALLS.size() > 80);
        for (String method : CALLS.keySet()) {
            for (String other : CALLS.get(method)) {
                CHECKS.holds("known: " + other, CALLS.containsKey(other));
            }
            if (CALLS.get(method).contains(method)) {
                CHECKS.holds("rule 8: a private static method that calls itself: " + method, LONE.contains(method));
            }
            int deep = depth(method, new ArrayList<>());
            CHECKS.holds("rule 11: " + method + " goes " + deep + " deep", deep <= MOST_DEEP);
        }
    }

    /** How many calls stand open at once, those to itself not counted; far too many, if methods call one another in a round. */
    private static int depth(String method, List<String> open) {
        if (open.contains(method)) {
            return 1000;
        }
        open.add(method);
        int deepest = 0;
        for (String other : CALLS.getOrDefault(method, Set.of())) {
            if (!other.equals(method)) {
                deepest = Math.max(deepest, depth(other, open));
            }
        }
        open.remove(method);
        return deepest + 1;
    }

    /** Rule 12: but for constructors one method alone makes something, and that only where its rows are too short. */
    private static void makers() {
        CHECKS.holds("what makes objects: " + MAKERS, MAKERS.equals(Set.of("ShakenParcels$Worlds.makeRoom")));
    }

    private static void lengths() throws Exception {
        List<String> lines = Files.readAllLines(SOURCE);
        Pattern header = Pattern.compile("^( {4}| {8})[\\w\\[\\]]+ .*\\) \\{$");
        for (int i = 0; i < lines.size(); i++) {
            Matcher head = header.matcher(lines.get(i));
            if (head.matches() && !lines.get(i).strip().matches("(if|for|while|switch|else|return)\\b.*")) {
                int end = i;
                while (end < lines.size() && !lines.get(end).equals(head.group(1) + "}")) {
                    end++;
                }
                CHECKS.holds("rule 11: " + lines.get(i).strip() + " has " + (end - i + 1) + " lines", end - i < MOST_LINES);
            }
        }
    }
}
