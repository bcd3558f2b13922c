import java.lang.reflect.Constructor;
import java.lang.reflect.Field;
import java.lang.reflect.Method;
import java.lang.reflect.Modifier;
import java.nio.file.Files;
import java.nio.file.Path;
import java.util.ArrayList;
import java.util.HashSet;
import java.util.List;
import java.util.Set;
import java.util.TreeSet;

/** The face is the document's and no more, and the file keeps to LANGUAGE.md where that can be seen from outside. */
public final class FaceTest {
    private static final Path SOURCE = Path.of("src/main/java/ShakenParcels.java");
    private static final String[] METHODS = {
        "int write(int)", "int wipe()", "int fault()", "int lay()", "int thing(int,int)", "int parcel(int,int)", "int world(int,int)",
        "int answer(int,int,int)", "int attempt(int,int)", "int hear(int,int,int)", "int change(int,int)", "int hide(int,int)", "int undo()",
        "int left()", "long likely(int,int,int)", "int sure(int,boolean)", "int judge()", "long guess(int,int)", "int next(int)", "int few(int)",
        "int solved(int)", "long risk(int)", "int seconds()", "int misled(int,int)", "int more(int)", "int heavier(int,int)",
        "int morning(int,int)", "int keep()", "int back()", "int count(int)"};
    private static final String[] FORBIDDEN = {
        "\\bthrow\\b", "\\bthrows\\b", "\\btry\\b", "\\bcatch\\b", "\\bsynchronized\\b", "\\bassert\\b", "->", "::", "Exact\\b", "\\bprotected\\b",
        "\\bpackage\\b", "\\bObject\\b", "\\bSystem\\.(?!arraycopy)", "\\bstatic\\s*\\{", "\\.(equals|hashCode|toString)\\(", "^import (?!java\\.util\\.Arrays;)"};

    private static final Checks CHECKS = new Checks();

    public static void main(String[] args) throws Exception {
        members();
        constants();
        insideNames();
        source();
        CHECKS.end();
    }

    private static void members() {
        Class<?> face = ShakenParcels.class;
        CHECKS.holds("public and final", Modifier.isPublic(face.getModifiers()) && Modifier.isFinal(face.getModifiers()));
        Set<String> got = new TreeSet<>();
        for (Method method : face.getDeclaredMethods()) {
            if (!Modifier.isPrivate(method.getModifiers()) && !method.isSynthetic()) {
                String whole = method.toString().replace("public ", "").replace("ShakenParcels.", "");
                got.add(whole);
                CHECKS.holds("public: " + whole, Modifier.isPublic(method.getModifiers()) && !Modifier.isStatic(method.getModifiers()));
            }
        }
        CHECKS.holds("the methods " + got, got.equals(new TreeSet<>(List.of(METHODS))));
        Constructor<?>[] constructors = face.getDeclaredConstructors();
        CHECKS.holds("one constructor", constructors.length == 1 && Modifier.isPublic(constructors[0].getModifiers())
                && constructors[0].getParameterCount() == 0);
    }

    private static void constants() {
        Set<String> visible = new TreeSet<>();
        for (Field field : ShakenParcels.class.getDeclaredFields()) {
            int mods = field.getModifiers();
            if (!Modifier.isPrivate(mods)) {
                visible.add(field.getName());
                CHECKS.holds("a constant: " + field, Modifier.isPublic(mods) && Modifier.isStatic(mods) && Modifier.isFinal(mods));
            }
            CHECKS.holds("static is final: " + field, !Modifier.isStatic(mods) || Modifier.isFinal(mods));
        }
        CHECKS.holds("the constants " + visible, visible.equals(Set.of("BAD", "NO", "FULL", "NONE")));
    }

    private static void insideNames() {
        Set<String> faceNames = new HashSet<>();
        for (String method : METHODS) {
            faceNames.add(method.substring(method.indexOf(' ') + 1, method.indexOf('(')));
        }
        List<Method> others = new ArrayList<>();
        for (Method method : ShakenParcels.class.getDeclaredMethods()) {
            if (!Modifier.isPublic(method.getModifiers())) {
                others.add(method);
            }
        }
        Class<?>[] inside = ShakenParcels.class.getDeclaredClasses();
        CHECKS.holds("at most twelve classes", inside.length < 12);
        for (Class<?> one : inside) {
            CHECKS.holds("static: " + one, Modifier.isStatic(one.getModifiers()) && !Modifier.isPublic(one.getModifiers()));
            CHECKS.holds("some twenty fields: " + one, one.getDeclaredFields().length <= 20);
            others.addAll(List.of(one.getDeclaredMethods()));
        }
        for (Method method : others) {
            CHECKS.holds("another name than one of the face: " + method, !faceNames.contains(method.getName()));
            CHECKS.holds("at most seven parameters: " + method, method.getParameterCount() <= 7);
        }
    }

    private static void source() throws Exception {
        int number = 0;
        for (String line : Files.readAllLines(SOURCE)) {
            number++;
            // what stands in comments and in texts is not code
            String code = line.replaceAll("\"[^\"]*\"", "").replaceAll("/\\*.*\\*/|//.*", "");
            for (String pattern : FORBIDDEN) {
                CHECKS.holds("line " + number + " is without " + pattern, !java.util.regex.Pattern.compile(pattern).matcher(code).find());
            }
            CHECKS.holds("line " + number + " is of signs 1 to 127", line.chars().allMatch(c -> c < 128));
        }
    }
}
