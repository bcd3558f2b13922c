import java.io.PrintWriter;
import java.io.StringWriter;
import java.nio.file.Path;
import java.util.ArrayList;
import java.util.List;
import java.util.regex.Matcher;
import java.util.regex.Pattern;
import java.util.spi.ToolProvider;

/** What the class and the classes inside it are compiled to, as javap tells it. */
final class Compiled {
    private static final Pattern HEADER = Pattern.compile("^  (?:[a-z]+ )*(?:\\S+ )?([\\w$]+)\\((.*)\\);$");
    private static final Pattern STEP = Pattern.compile("^ +(\\d+): (\\w+)(?: +([^/]*?))?(?: *// (.*))?$");

    /** An instruction: where it stands, its name, what it is given, and what javap says of that. */
    record Step(int place, String name, String given, String said) { }

    /** A method with its instructions; whether it is private and static, and whether it catches something. */
    record Code(String owner, String name, boolean lone, boolean catching, List<Step> steps) {
        String whole() {
            return owner + "." + name;
        }
    }

    private Compiled() { }

    static List<Class<?>> classes() {
        List<Class<?>> classes = new ArrayList<>(List.of(ShakenParcels.class.getDeclaredClasses()));
        classes.add(ShakenParcels.class);
        return classes;
    }

    static List<Code> methods() throws Exception {
        List<Code> all = new ArrayList<>();
        for (Class<?> one : classes()) {
            methodsOf(one, all);
        }
        return all;
    }

    private static void methodsOf(Class<?> one, List<Code> all) throws Exception {
        String owner = one.getName();
        Code last = null;
        for (String line : javap(one).split("\n")) {
            Matcher header = HEADER.matcher(line);
            Matcher step = STEP.matcher(line);
            if (header.matches()) {
                String name = header.group(1).equals(owner) ? "<init>" : header.group(1);
                last = new Code(owner, name, line.contains("private static "), false, new ArrayList<>());
                all.add(last);
            } else if (last != null && step.matches()) {
                String given = step.group(3) == null ? "" : step.group(3).strip();
                last.steps.add(new Step(Integer.parseInt(step.group(1)), step.group(2), given, step.group(4) == null ? "" : step.group(4)));
            } else if (last != null && line.contains("Exception table")) {
                all.remove(last);
                last = new Code(owner, last.name, last.lone, true, last.steps);
                all.add(last);
            }
        }
    }

    private static String javap(Class<?> one) throws Exception {
        Path place = Path.of(one.getProtectionDomain().getCodeSource().getLocation().toURI());
        StringWriter text = new StringWriter();
        ToolProvider.findFirst("javap").orElseThrow().run(new PrintWriter(text), new PrintWriter(text), "-c", "-p", "-cp", place.toString(), one.getName());
        return text.toString();
    }
}
