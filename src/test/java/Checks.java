import java.nio.charset.StandardCharsets;
import java.util.ArrayList;
import java.util.List;

/** Counts what is as due, prints what is not, and brings texts onto the tape. */
final class Checks {
    private static int passed = 0;
    private static int failed = 0;
    private static Doc doc = null;
    private static String sentence = "";

    private Checks() {
    }

    static void due(String what, long got, long want) {
        if (got == want) {
            passed++;
            return;
        }
        failed++;
        if (failed <= 50) {
            System.out.println(sentence + what + " answered " + got + ", due is " + want);
        }
    }

    /** The words of the document that the checks behind hold: of a promise by its number, or of the Terms (0). */
    static void says(int section, String words) {
        if (doc == null) {
            doc = new Doc("../shared/DOC.md");
        }
        sentence = "";
        due("the document says in " + section + ": " + words, doc.quote(section, words), true);
        sentence = section + " \"" + words + "\": ";
    }

    /** Each word of the document stands in a sentence that a test has quoted. */
    static void allIsQuoted() {
        sentence = "";
        for (String words : doc.unquoted()) {
            due("a test holds " + words, false, true);
        }
    }

    static void due(String what, boolean got, boolean want) {
        due(what, got ? 1 : 0, want ? 1 : 0);
    }

    static void dueText(String what, String got, String want) {
        if (!got.equals(want)) {
            System.out.println(what + " answered " + got + ", due is " + want);
        }
        due(what, got.equals(want), true);
    }

    /** The answer of a call and the STATUS behind it. */
    static void due(CheatHeap x, String what, long got, long want, int status) {
        int found = x.status();
        due(what, got, want);
        due("status behind " + what, found, status);
    }

    static void due(CheatHeap x, String what, boolean got, boolean want, int status) {
        due(x, what, got ? 1 : 0, want ? 1 : 0, status);
    }

    /** A call that tells a FRACTION. */
    static void fraction(CheatHeap x, String what, boolean got, long top, long bottom) {
        due(x, what, got, true, 0);
        due("top behind " + what, x.top(), top);
        due("bottom behind " + what, x.bottom(), bottom);
    }

    /** The text's bytes come onto the tape, blanks behind them up to a multiple of twenty. */
    static int feed(CheatHeap x, String text) {
        byte[] bytes = text.getBytes(StandardCharsets.ISO_8859_1);
        int many = 0;
        for (int from = 0; from < bytes.length; from += 20) {
            int[] v = new int[5];
            for (int i = 0; i < 20; i++) {
                int b = from + i < bytes.length ? bytes[from + i] & 255 : 32;
                v[i / 4] = v[i / 4] << 8 | b;
            }
            many = x.feed(v[0], v[1], v[2], v[3], v[4]);
        }
        return many;
    }

    static int table(CheatHeap x, String text) {
        feed(x, text);
        return x.table(text.length());
    }

    static int round(CheatHeap x, String text) {
        feed(x, text);
        return x.round(text.length());
    }

    /** What can be told of the state; only calls that change no more than STATUS and the FRACTION, which comes first. */
    static long[] look(CheatHeap x) {
        List<Long> all = new ArrayList<>();
        all.add(x.top());
        all.add(x.bottom());
        for (int i = -1; i < 12; i++) {
            all.add((long) x.many(i));
            all.add((long) x.played(i));
            all.add((long) x.fault(i));
            for (int k = 0; k < 10; k++) {
                all.add((long) x.player(i, k));
                all.add((long) x.hand(i, k));
                all.add((long) x.laying(i, k));
                all.add((long) x.cardOf(i, k));
                all.add(x.read(i, k));
            }
        }
        long[] told = new long[all.size()];
        for (int i = 0; i < told.length; i++) {
            told[i] = all.get(i);
        }
        return told;
    }

    /** A new object with this TABLE. */
    static CheatHeap withTable(String text) {
        CheatHeap x = new CheatHeap();
        table(x, text);
        due("the table is taken: " + text, x.status(), 0);
        return x;
    }

    static void finish(String name) {
        System.out.println(name + ": " + passed + " passed, " + failed + " failed");
        if (failed != 0) {
            System.exit(1);
        }
    }
}
