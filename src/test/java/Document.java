import java.io.IOException;
import java.nio.file.Files;
import java.nio.file.Path;
import java.util.ArrayList;
import java.util.List;

/** The words of ../shared/DOC.md that bind: part 0 is its terms, part n is promise n; what is quoted from them is marked. */
final class Document {
    static final int PROMISES = 31;
    private static final Path PLACE = Path.of("../shared/DOC.md");

    private final String[] parts = new String[PROMISES + 1];
    private final boolean[][] quoted = new boolean[PROMISES + 1][];

    Document() throws IOException {
        String whole = plain(Files.readString(PLACE));
        // the terms begin under one heading and go on under another one
        parts[0] = between(whole, "A TEXT is letters", " An object is used") + between(whole, "## Terms", "Ahead of the calls `write`")
                + between(whole, "An object is used", "## The public face");
        for (int n = 1; n <= PROMISES; n++) {
            String section = between(whole, "## Promise " + n + ":", n < PROMISES ? "## Promise " + (n + 1) + ":" : "## Not promised");
            parts[n] = section.substring(section.indexOf("`: ") + 3);
        }
        parts[0] = parts[0].replace("## Terms", "");
        for (int n = 0; n <= PROMISES; n++) {
            quoted[n] = new boolean[parts[n].length()];
        }
    }

    private static String plain(String text) {
        return text.replaceAll("```\\w*", " ").replaceAll("======== \\d ", " ").replaceAll("\\s+", " ");
    }

    private static String between(String text, String from, String to) {
        int start = text.indexOf(from);
        int end = text.indexOf(to, Math.max(0, start));
        return start < 0 || end < 0 ? "" : text.substring(start, end);
    }

    /** Marks words of a promise, or else of the terms; false if they do not stand there just once. */
    boolean quote(int promise, String words) {
        int part = parts[promise].contains(words) ? promise : 0;
        int start = parts[part].indexOf(words);
        if (words.isEmpty() || start < 0 || start != parts[part].lastIndexOf(words)) {
            return false;
        }
        for (int i = start; i < start + words.length(); i++) {
            quoted[part][i] = true;
        }
        return true;
    }

    /** Words that nobody quoted. */
    List<String> unquoted() {
        List<String> rest = new ArrayList<>();
        for (int n = 0; n <= PROMISES; n++) {
            if (parts[n].isEmpty()) {
                rest.add("part " + n + " is not found");
            }
            StringBuilder words = new StringBuilder();
            for (int i = 0; i <= parts[n].length(); i++) {
                if (i < parts[n].length() && !quoted[n][i]) {
                    words.append(parts[n].charAt(i));
                } else {
                    if (words.chars().anyMatch(Character::isLetterOrDigit)) {
                        rest.add("part " + n + ": " + words);
                    }
                    words.setLength(0);
                }
            }
        }
        return rest;
    }
}
