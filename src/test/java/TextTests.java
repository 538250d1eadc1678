import java.util.ArrayList;
import java.util.List;
import java.util.Random;
import java.util.Set;
import java.util.regex.Matcher;
import java.util.regex.Pattern;

/** TABLES and ROUNDS spoiled by chance, each FAULT and place held against a reader of another make. */
public final class TextTests {
    private static final Set<String> RESERVED = Set.of("kinds", "each", "law", "most", "player", "lies", "doubts", "hand", "of",
        "up", "down", "same", "turn", "when", "cards", "heap", "won", "shown", "loop", "end", "stop");
    private static final Pattern TOKEN = Pattern.compile("[a-z]+|[0-9]+|[;<>=]|[ \\n]+|.", Pattern.DOTALL);
    private static final String[] PIECES = {"kinds", "each", "law", "most", "player", "lies", "doubts", "hand", "of", "up", "down",
        "same", "turn", "when", "cards", "heap", "won", "shown", "loop", "end", "stop", "a", "b", "c", "zz", "abcdefgh",
        "abcdefghi", ";", "<", ">", "=", "0", "1", "2", "3", "4", "5", "8", "9", "10", "11", "16", "17", "80", "81", "99", "100",
        "999", "1000", "9999", "00016", "0016", "%", "A", "\t", " ", "\n", "\u00ff", "turn;", "end;", "loop 2;", "when won;",
        "player d;", "player e;", "player f;", "player g;", "hand a 1 of 1;", "hand b 2 of 1;", "law up;", "most 3;"};
    private static final String[] TABLES = {
        "kinds 4 each 4;law up;player a lies 8 doubts 4;player b doubts 8;player c lies 16;hand a 2 of 0;hand b 1 of 2;hand c 2 of 1;",
        "kinds 2 each 8;most 2;player a;hand a 0 of 0;hand a 8 of 1;player b;hand b 3 of 0;law same;",
        "kinds 10 each 1; law down; most 4; player a; player b; player c; player d; player e; player f; hand a 1 of 9;"};
    private static final String[] ROUNDS = {
        "lies a 0; doubts b 16; loop 8; turn; end; when won; stop; end; turn;",
        "loop 99;loop 2;when heap > 80;turn;end;end;when cards a < 3;end;end;when shown b = 999;turn;end;",
        "turn;".repeat(29) + "stop;",
        "loop 9;loop 8;loop 7;turn;end;end;when won;end;end;stop;"};

    private static final class Fault extends RuntimeException {
        private static final long serialVersionUID = 1L;
        final int kind;
        final int place;

        Fault(int kind, int place) {
            this.kind = kind;
            this.place = place;
        }
    }

    private final List<String> tokens = new ArrayList<>();
    private final List<Integer> places = new ArrayList<>();
    private final List<String> names = new ArrayList<>();
    private int at = 0;
    private int steps = 0;

    private TextTests(String text) {
        Matcher m = TOKEN.matcher(text);
        while (m.find()) {
            if (!m.group().isBlank() || m.group().contains("\t")) {
                tokens.add(m.group());
                places.add(m.start());
            }
        }
        tokens.add("");
        places.add(text.length());
    }

    public static void main(String[] args) {
        int texts = args.length > 0 ? Integer.parseInt(args[0]) : 40000;
        Random random = new Random(7);
        int[] faults = new int[8];
        for (int i = 0; i < texts; i++) {
            String table = spoil(TABLES[random.nextInt(TABLES.length)], random);
            if (table.length() <= 900) {
                faults[checkTable(table)]++;
            }
            String round = spoil(ROUNDS[random.nextInt(ROUNDS.length)], random);
            if (round.length() <= 300) {
                faults[checkRound(round)]++;
            }
        }
        for (int kind = 0; kind < 8; kind++) {
            Checks.due("FAULT " + kind + " comes about", faults[kind] > 20, true);
        }
        Checks.finish("TextTests");
    }

    private static String spoil(String text, Random random) {
        StringBuilder s = new StringBuilder(text);
        for (int n = random.nextInt(4); n > 0; n--) {
            int from = random.nextInt(s.length() + 1);
            int behind = s.indexOf(";", from) + 1;
            from = random.nextBoolean() ? from : behind;
            int to = Math.min(s.length(), from + random.nextInt(random.nextBoolean() ? 2 : 9));
            to = random.nextBoolean() ? from : to;
            String piece = random.nextInt(4) == 0 ? "" : PIECES[random.nextInt(PIECES.length)];
            s.replace(from, to, random.nextBoolean() ? piece : " " + piece + " ");
        }
        if (random.nextInt(8) == 0) {
            s.setLength(random.nextInt(s.length() + 1));
        }
        return s.toString();
    }

    private static int checkTable(String text) {
        CheatHeap x = new CheatHeap();
        TextTests reader = new TextTests(text);
        try {
            reader.table();
        } catch (Fault f) {
            return faulty(x, text, Checks.table(x, text), f);
        }
        Checks.due(x, text, Checks.table(x, text), reader.names.size(), 0);
        Checks.due("no fault of " + text, x.fault(0), 0);
        return 0;
    }

    private static int checkRound(String text) {
        CheatHeap x = new CheatHeap();
        Checks.table(x, TABLES[1]);
        TextTests reader = new TextTests(text);
        reader.names.add("a");
        reader.names.add("b");
        try {
            reader.round(0);
            reader.ends();
        } catch (Fault f) {
            return faulty(x, text, Checks.round(x, text), f);
        }
        Checks.due(x, text, Checks.round(x, text), reader.steps, 0);
        Checks.due("no place in " + text, x.fault(1), -1);
        return 0;
    }

    private static int faulty(CheatHeap x, String text, int got, Fault f) {
        Checks.due(x, text, got, -1, 10);
        Checks.due("fault of " + text, x.fault(0), f.kind);
        Checks.due("place of " + text, x.fault(1), f.place);
        return f.kind;
    }

    private Fault fault(int kind) {
        String t = tokens.get(at);
        boolean is = t.isEmpty() || t.matches("[a-z]+|[0-9]{1,4}|[;<>=]");
        return new Fault(is ? kind : 1, places.get(at));
    }

    private boolean is(String... words) {
        return List.of(words).contains(tokens.get(at));
    }

    private void pass(String... words) {
        if (!is(words)) {
            throw fault(2);
        }
        at++;
    }

    private void ends() {
        if (!tokens.get(at).isEmpty()) {
            throw fault(2);
        }
    }

    private int number(int low, int high) {
        if (!tokens.get(at).matches("[0-9]{1,4}")) {
            throw fault(2);
        }
        int v = Integer.parseInt(tokens.get(at));
        if (v < low || v > high) {
            throw fault(4);
        }
        at++;
        return v;
    }

    private String name(boolean isNew) {
        String t = tokens.get(at);
        if (!t.matches("[a-z]{1,8}") || RESERVED.contains(t)) {
            throw fault(2);
        }
        if (names.contains(t) == isNew) {
            throw fault(3);
        }
        at++;
        return t;
    }

    private void table() {
        pass("kinds");
        int kinds = number(2, 10);
        pass("each");
        int each = number(1, 8);
        pass(";");
        List<String> told = new ArrayList<>();
        int[] dealt = new int[10];
        while (!tokens.get(at).isEmpty()) {
            if (is("law", "most") && told.contains(tokens.get(at))) {
                throw fault(5);
            }
            if (is("player") && names.size() == 6) {
                throw fault(6);
            }
            String word = tokens.get(at);
            pass("law", "most", "player", "hand");
            told.add(word);
            if (word.equals("law")) {
                pass("up", "down", "same");
            } else if (word.equals("most")) {
                number(1, 4);
            } else if (word.equals("player")) {
                player();
            } else {
                hand(kinds, each, dealt, told);
            }
            pass(";");
        }
    }

    private void player() {
        names.add(name(true));
        for (String word : new String[] {"lies", "doubts"}) {
            if (is(word)) {
                at++;
                number(0, 16);
            }
        }
    }

    private void hand(int kinds, int each, int[] dealt, List<String> told) {
        String who = name(false);
        int n = number(0, 8);
        pass("of");
        int kind = number(0, kinds - 1);
        dealt[kind] += n;
        if (told.contains(who + kind) || dealt[kind] > each) {
            at--;
            throw fault(5);
        }
        told.add(who + kind);
    }

    private void round(int depth) {
        while (is("turn", "lies", "doubts", "when", "loop", "stop")) {
            String word = tokens.get(at);
            boolean isDeep = is("when", "loop");
            if (steps == 30) {
                throw fault(6);
            }
            if (isDeep && depth == 3) {
                throw fault(7);
            }
            steps++;
            at++;
            if (word.equals("lies") || word.equals("doubts")) {
                name(false);
                number(0, 16);
            } else if (word.equals("loop")) {
                number(1, 99);
            } else if (word.equals("when")) {
                test();
            }
            pass(";");
            if (isDeep) {
                round(depth + 1);
                pass("end");
                pass(";");
            }
        }
    }

    private void test() {
        String word = tokens.get(at);
        pass("won", "cards", "heap", "shown");
        if (word.equals("won")) {
            return;
        }
        if (!word.equals("heap")) {
            name(false);
        }
        pass("<", ">", "=");
        number(0, word.equals("shown") ? 999 : 80);
    }
}
