import java.io.OutputStream;
import java.io.PrintStream;
import java.lang.reflect.Method;
import java.net.URL;
import java.net.URLClassLoader;
import java.nio.file.Files;
import java.nio.file.Path;
import java.util.List;
import java.util.stream.IntStream;
import javax.tools.ToolProvider;

/** Breaks one sentence after the other in a copy of the class: the edge that is named has to fail then. */
public final class BrokenTest {
    private static final Path SOURCE = Path.of("src/main/java/ShakenParcels.java");
    private static final Path OUT = Path.of("build/broken");

    private BrokenTest() { }

    public static void main(String[] args) throws Exception {
        List<Breaks.Break> breaks = Breaks.all();
        String source = Files.readString(SOURCE);
        Path tests = Path.of(Edges.class.getProtectionDomain().getCodeSource().getLocation().toURI());
        PrintStream out = System.out;
        // what the edges print of a broken copy is not to be read as what fails here
        System.setOut(new PrintStream(OutputStream.nullOutputStream()));
        List<String> told = IntStream.range(0, breaks.size()).parallel().mapToObj(i -> tell(source, breaks.get(i), i, tests)).toList();
        System.setOut(out);
        Checks checks = new Checks();
        for (int i = 0; i < told.size(); i++) {
            checks.holds(breaks.get(i) + ": " + told.get(i), told.get(i).isEmpty());
        }
        System.out.println(breaks.size() + " broken copies");
        checks.end();
    }

    /** What is wrong with a break; nothing, if the edge that it names fails. */
    private static String tell(String source, Breaks.Break one, int number, Path tests) {
        int place = source.indexOf(one.from());
        if (place < 0 || place != source.lastIndexOf(one.from())) {
            return "what is to be broken does not stand just once in the class";
        }
        try {
            Path copy = OUT.resolve("" + number);
            if (!compile(source.substring(0, place) + one.to() + source.substring(place + one.from().length()), copy)) {
                return "the broken copy can not be compiled";
            }
            return edgeFails(copy, tests, one) ? "" : "the edge does not notice";
        } catch (Exception thrown) {
            return "threw " + thrown;
        }
    }

    private static boolean compile(String broken, Path copy) throws Exception {
        Files.createDirectories(copy);
        Path file = copy.resolve("ShakenParcels.java");
        Files.writeString(file, broken);
        OutputStream nowhere = OutputStream.nullOutputStream();
        return ToolProvider.getSystemJavaCompiler().run(null, nowhere, nowhere, "-nowarn", "-d", copy.toString(), file.toString()) == 0;
    }

    /** Runs the edge with the broken class in place of the whole one. */
    private static boolean edgeFails(Path copy, Path tests, Breaks.Break one) throws Exception {
        URL[] places = {copy.toUri().toURL(), tests.toUri().toURL()};
        try (URLClassLoader loader = new URLClassLoader(places, ClassLoader.getPlatformClassLoader())) {
            Method run = loader.loadClass("Edges").getDeclaredMethod("oneFails", int.class, String.class);
            run.setAccessible(true);
            return (boolean) run.invoke(null, one.promise(), one.edge());
        }
    }
}
