/** What the tests share: counting what is not as due, and writing texts. */
final class Checks {
    private final String name;
    private int done = 0;
    private int wrong = 0;

    Checks() {
        this("");
    }

    /** What is wrong is told with the name ahead of it. */
    Checks(String name) {
        this.name = name;
    }

    void due(String what, long got, long want) {
        done++;
        if (got != want) {
            wrong++;
            System.out.println(name + what + " answered " + got + ", due is " + want);
        }
    }

    void holds(String what, boolean so) {
        due(what, so ? 1 : 0, 1);
    }

    /** The answers of a row of calls at once. */
    void row(String what, long[] got, long... want) {
        due(what + " how many", got.length, want.length);
        for (int i = 0; i < Math.min(got.length, want.length); i++) {
            due(what + " [" + i + "]", got[i], want[i]);
        }
    }

    static long[] all(long... got) {
        return got;
    }

    void addTo(Checks other) {
        other.done += done;
        other.wrong += wrong;
    }

    boolean failed() {
        return wrong != 0 || done == 0;
    }

    /** Prints how it went and ends with 1 if something was wrong. */
    void end() {
        System.out.println(done + " checks, " + wrong + " wrong");
        if (failed()) {
            System.exit(1);
        }
    }

    static int write(ShakenParcels x, String text) {
        int answer = 0;
        for (int i = 0; i < text.length(); i++) {
            answer = x.write(text.charAt(i));
        }
        return answer;
    }

    /** Lays a text in place of what was written. */
    static int lay(ShakenParcels x, String text) {
        x.wipe();
        write(x, text);
        return x.lay();
    }

    static ShakenParcels laid(String text) {
        ShakenParcels x = new ShakenParcels();
        lay(x, text);
        return x;
    }
}
