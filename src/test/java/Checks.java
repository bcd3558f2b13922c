/** What the tests share: counting what is not as due, and writing texts. */
final class Checks {
    private int done = 0;
    private int wrong = 0;

    void due(String what, long got, long want) {
        done++;
        if (got != want) {
            wrong++;
            System.out.println(what + " answered " + got + ", due is " + want);
        }
    }

    void holds(String what, boolean so) {
        due(what, so ? 1 : 0, 1);
    }

    void addTo(Checks other) {
        other.done += done;
        other.wrong += wrong;
    }

    /** Prints how it went and ends with 1 if something was wrong. */
    void end() {
        System.out.println(done + " checks, " + wrong + " wrong");
        if (wrong != 0 || done == 0) {
            System.exit(1);
        }
    }

    static int write(ShakenParcels x, String text) {
        int answer = 0;
        for (int i = 0; i < text.length(); i++) {
            answer = x.write(text.charAt(i));
        }
        return answer;
    }

    /** Lays a text in place of what was written. */
    static int lay(ShakenParcels x, String text) {
        x.wipe();
        write(x, text);
        return x.lay();
    }

    static ShakenParcels laid(String text) {
        ShakenParcels x = new ShakenParcels();
        lay(x, text);
        return x;
    }
}
