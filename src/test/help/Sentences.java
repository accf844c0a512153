import java.io.IOException;
import java.io.UncheckedIOException;
import java.nio.file.Files;
import java.nio.file.Path;
import java.util.ArrayList;
import java.util.List;

/**
 * What tests of the document's promises and sentences need. A test of a sentence names it by the document's own words:
 * words that do not stand there are a fault, and so is a sentence that no test has named.
 */
abstract class Sentences {
    static final int BAD = -1, NOT = -2, FULL = -3, STATE = -5, VOID = -2000000000;
    static final int NOTHING = -11, OTHER = -12, PLACE = -13, SIZE = -14;
    static final int LEAST_INT = Integer.MIN_VALUE, MOST_INT = Integer.MAX_VALUE;
    static final long LEAST = Long.MIN_VALUE;
    static final int TERMS = 0, PROMISES = 41;

    private static final String[] SECTIONS = new String[PROMISES + 1];
    private static final boolean[][] QUOTED = new boolean[PROMISES + 1][];
    private static String sentence = "";
    private static int sentences;
    private static int checks;
    private static int wrong;

    // ---- the document

    /** Takes the arguments of a test: the project's folder and the shared one. */
    static void readDocument(String[] args) {
        Path shared = Path.of(args.length > 1 ? args[1] : "../shared");
        String document;
        try {
            document = Files.readString(shared.resolve("DOC.md"));
        } catch (IOException e) {
            throw new UncheckedIOException(e);
        }
        SECTIONS[TERMS] = plain(between(document, "## Terms", "## Promise 1:"));
        for (int i = 1; i <= PROMISES; i++) {
            String next = i < PROMISES ? "## Promise " + (i + 1) + ":" : "## Not promised";
            String body = between(document, "## Promise " + i + ":", next);
            SECTIONS[i] = plain(body.substring(body.indexOf("`:") + 2));
        }
        for (int i = 0; i <= PROMISES; i++) {
            QUOTED[i] = new boolean[SECTIONS[i].length()];
        }
    }

    private static String between(String text, String from, String to) {
        int start = text.indexOf(from) + from.length();
        return text.substring(start, text.indexOf(to, start));
    }

    private static String plain(String text) {
        return text.replace("```text", " ").replace("```", " ").replace("========", " ").replaceAll("\\s+", " ").trim();
    }

    /** Begins the test of a sentence, or of a part of one, of a promise (0: of the Terms). */
    static void says(int section, String words) {
        sentence = (section == TERMS ? "Terms" : "promise " + section) + ", \"" + words + "\"";
        sentences++;
        int at = SECTIONS[section].indexOf(words);
        if (at < 0) {
            wrong++;
            System.out.println(sentence + " does not stand in the document");
            return;
        }
        for (int i = at; i < at + words.length(); i++) {
            QUOTED[section][i] = true;
        }
    }

    /** Begins tests of a promise as a whole. */
    static void about(int promise) {
        sentence = "promise " + promise;
    }

    /** Every sentence of these sections must have been named, but for those that begin so. */
    static void allNamed(int first, int last, String... beside) {
        for (int section = first; section <= last; section++) {
            int from = 0;
            for (int end : endsOfSentences(SECTIONS[section])) {
                String words = SECTIONS[section].substring(from, end).trim();
                boolean named = false;
                for (int i = from; i < end; i++) {
                    named |= QUOTED[section][i];
                }
                for (String b : beside) {
                    named |= words.startsWith(b);
                }
                if (!named && !words.isEmpty()) {
                    wrong++;
                    System.out.println("no test names, in section " + section + ": " + words);
                }
                from = end;
            }
        }
    }

    /** A point ends a sentence, unless it is one of the two of a range. */
    private static List<Integer> endsOfSentences(String text) {
        List<Integer> ends = new ArrayList<>();
        for (int i = 0; i < text.length(); i++) {
            boolean range = i > 0 && text.charAt(i - 1) == '.' || i + 1 < text.length() && text.charAt(i + 1) == '.';
            if (text.charAt(i) == '.' && !range && (i + 1 == text.length() || text.charAt(i + 1) == ' ')) {
                ends.add(i + 1);
            }
        }
        ends.add(text.length());
        return ends;
    }

    static void due(String call, long want, long got) {
        checks++;
        if (want != got) {
            wrong++;
            System.out.println(sentence + ": " + call + " answered " + got + ", due is " + want);
        }
    }

    static void end() {
        String what = sentences > 0 ? sentences + " sentences hold, by " : "";
        System.out.println(wrong == 0 ? what + checks + " answers that are due" : wrong + " faults");
        if (wrong != 0) {
            System.exit(1);
        }
    }

    // ---- warrens, rows, laws

    static FoxHoles holesOf(int... weights) {
        FoxHoles x = new FoxHoles();
        for (int i = 0; i < weights.length; i++) {
            due("hole(" + weights[i] + ")", i, x.hole(weights[i]));
        }
        return x;
    }

    /** Holes of weight 1, and paths between them. */
    static FoxHoles warren(int n, int... paths) {
        int[] weights = new int[n];
        java.util.Arrays.fill(weights, 1);
        FoxHoles x = holesOf(weights);
        for (int i = 0; i < paths.length; i++) {
            due("path(" + paths[i] + ")", i + 1, x.path(paths[i]));
        }
        return x;
    }

    static FoxHoles line(int n) {
        int[] paths = new int[n - 1];
        for (int i = 0; i + 1 < n; i++) {
            paths[i] = i * 10 + i + 1;
        }
        return warren(n, paths);
    }

    /** Ten holes with 20 paths, 4 of each. */
    static FoxHoles fullWarren() {
        int[] paths = new int[20];
        for (int i = 0; i < 10; i++) {
            paths[2 * i] = i * 10 + (i + 1) % 10;
            paths[2 * i + 1] = i * 10 + (i + 2) % 10;
        }
        return warren(10, paths);
    }

    static void row(FoxHoles x, int shelf, int sort, long... elements) {
        due("row", 1, x.row(shelf, sort, elements.length));
        for (int i = 0; i < elements.length; i++) {
            due("put", 1, x.put(shelf, i, elements[i]));
        }
    }

    static void looks(FoxHoles x, int shelf, long... looks) {
        row(x, shelf, 0, looks);
    }

    static void prints(FoxHoles x, int shelf, long... prints) {
        row(x, shelf, 1, prints);
    }

    /** A row of looks that are none, but for one. */
    static void onlyLook(FoxHoles x, int shelf, int n, int place, int hole) {
        long[] row = new long[n];
        java.util.Arrays.fill(row, -1);
        row[place] = hole;
        looks(x, shelf, row);
    }

    static int law(FoxHoles x, String text) {
        for (int i = 0; i < text.length(); i++) {
            x.feed(text.charAt(i));
        }
        return x.law();
    }

    static void sureRow(FoxHoles x, int mornings, int... looks) {
        due("sure(-1)", mornings, x.sure(-1));
        for (int k = 0; k < looks.length; k++) {
            due("sure(" + k + ")", looks[k], x.sure(k));
        }
        due("sure(" + looks.length + ")", NOT, x.sure(looks.length));
    }

    /** The z of the next draw. */
    static int draw(int z) {
        return z * 1103515245 + 12345;
    }
}
