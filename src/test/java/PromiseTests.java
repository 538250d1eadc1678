/** For each promise of the document: ordinary answers, edges and wrong arguments, told by hand. */
public final class PromiseTests {
    private static final int NONE = CheatHeap.NONE;

    /** Three players whose KINDS shift by three of four from TURN to TURN. */
    private static final String THREE = "kinds 4 each 4; most 2; player ann lies 3 doubts 5; player bob; player cid doubts 16;"
        + "hand ann 2 of 0; hand ann 1 of 2; hand bob 1 of 0; hand bob 2 of 1; hand cid 3 of 2;";
    private static final String TWO = "kinds 2 each 8; player a; player b; hand a 3 of 0; hand a 1 of 1; hand b 2 of 0; hand b 2 of 1;";

    private PromiseTests() {
    }

    public static void main(String[] args) {
        newObject();
        statusAndFraction();
        trays();
        pour();
        feedAndTape();
        tableTexts();
        tableFaults();
        roundTexts();
        roundFaults();
        faults();
        counts();
        layingsInTheHeap();
        theGreatestHeap();
        copyHand();
        lay();
        leaveAndWin();
        doubt();
        laws();
        bend();
        whatOneCanKnow();
        honestAndBelief();
        ready();
        inTheHeap();
        turnsAndKinds();
        ridAndLies();
        best();
        sayer();
        sets();
        guess();
        play();
        playedCounts();
        playSteps();
        winsAndLeft();
        marks();
        Checks.finish("PromiseTests");
    }

    private static void newObject() {
        CheatHeap x = new CheatHeap();
        Checks.due("status", x.status(), 0);
        Checks.due("top", x.top(), 0);
        Checks.due("bottom", x.bottom(), 1);
        int[] due = {2, 1, 0, 0, 4, 0, NONE, 0, 0, NONE, 0, NONE};
        int[] status = {0, 0, 0, 0, 0, 0, 8, 0, 0, 8, 0, 5};
        for (int what = 0; what < due.length; what++) {
            Checks.due(x, "many " + what, x.many(what), due[what], status[what]);
        }
        Checks.due(x, "many -1", x.many(-1), NONE, 5);
        for (int t = 0; t < 4; t++) {
            Checks.due(x, "a tray is missing", x.read(t, 0), NONE, 3);
        }
        Checks.due(x, "no round", x.play(0), NONE, 8);
        Checks.due(x, "no play", x.played(0), NONE, 8);
        Checks.due(x, "no mark", x.back(), NONE, 8);
        Checks.due(x, "an empty tape", x.table(1), NONE, 5);
        Checks.due("no text yet", x.fault(0), NONE);
        Checks.due("no text yet", x.fault(1), NONE);
    }

    private static void statusAndFraction() {
        CheatHeap x = Checks.withTable(TWO);
        Checks.due(x, "no player", x.hand(2, 0), NONE, 2);
        x.top();
        x.bottom();
        x.fault(0);
        x.feed(1, 2, 3, 4, 5);
        Checks.due("these have no status", x.status(), 2);
        Checks.fraction(x, "honest", x.honest(0), 1, 2);
        Checks.due(x, "honest", x.honest(2), false, 2);
        Checks.due("the fraction stays", x.bottom(), 2);
        x.lay(0, 0, -1, -1);
        Checks.fraction(x, "a zero is 0 by 1", x.guess(0, 0, 4), 0, 1);
        x = Checks.withTable("kinds 2 each 4; player a; player b; hand a 1 of 0; hand b 1 of 1;");
        x.lay(0, -1, -1, -1);
        Checks.fraction(x, "worth below 0", x.worth(1), -1, 1);
    }

    private static void trays() {
        CheatHeap x = new CheatHeap();
        Checks.due(x, "tray -1", x.tray(-1, 0, 1), false, 1);
        Checks.due(x, "tray 4", x.tray(4, 0, 1), false, 1);
        Checks.due(x, "sort -1", x.tray(0, -1, 1), false, 1);
        Checks.due(x, "sort 4", x.tray(0, 4, 99), false, 1);
        Checks.due(x, "61 places", x.tray(0, 0, 61), false, 5);
        Checks.due(x, "-1 places", x.tray(0, 0, -1), false, 6);
        Checks.due(x, "still missing", x.read(0, 0), NONE, 3);
        Checks.due(x, "still missing", x.write(0, 0, 1), false, 3);
        Checks.due(x, "no tray", x.write(4, 0, 1), false, 1);
        Checks.due(x, "no tray", x.read(-1, 0), NONE, 1);
        Checks.due(x, "an empty tray", x.tray(1, 3, 0), true, 0);
        Checks.due(x, "has no place", x.read(1, 0), NONE, 4);
        long[] cut = {(byte) 0x1234567890ABCDEFL, (short) 0x1234567890ABCDEFL, (int) 0x1234567890ABCDEFL, 0x1234567890ABCDEFL};
        for (int sort = 0; sort < 4; sort++) {
            Checks.due(x, "tray", x.tray(sort, sort, 60), true, 0);
            Checks.due(x, "write", x.write(sort, 59, 0x1234567890ABCDEFL), true, 0);
            Checks.due(x, "read", x.read(sort, 59), cut[sort], 0);
            Checks.due(x, "write", x.write(sort, 0, -1), true, 0);
            Checks.due(x, "-1 with status 0", x.read(sort, 0), -1, 0);
            Checks.due(x, "place 60", x.write(sort, 60, 1), false, 4);
            Checks.due(x, "place -1", x.read(sort, -1), NONE, 4);
            Checks.due(x, "zero", x.read(sort, 30), 0, 0);
        }
        Checks.due(x, "a failing call leaves it", x.tray(3, 0, 61), false, 5);
        Checks.due(x, "read", x.read(3, 59), cut[3], 0);
        Checks.due(x, "a tray made anew", x.tray(3, 0, 60), true, 0);
        Checks.due(x, "all 0", x.read(3, 59), 0, 0);
        Checks.due(x, "all 0", x.read(3, 0), 0, 0);
    }

    private static void pour() {
        CheatHeap x = new CheatHeap();
        x.tray(0, 1, 6);
        x.tray(1, 1, 4);
        x.tray(2, 2, 4);
        for (int i = 0; i < 6; i++) {
            x.write(0, i, i + 1);
        }
        Checks.due(x, "no tray ahead of all", x.pour(3, 0, 4, 0, -1), false, 1);
        Checks.due(x, "no tray", x.pour(-1, 0, 0, 0, 1), false, 1);
        Checks.due(x, "missing", x.pour(0, 0, 3, 0, -1), false, 3);
        Checks.due(x, "missing", x.pour(3, 0, 0, 0, -1), false, 3);
        Checks.due(x, "unlike ahead of below 0", x.pour(0, 0, 2, 0, -1), false, 11);
        Checks.due(x, "below 0 ahead of place", x.pour(0, 9, 1, 0, -1), false, 6);
        Checks.due(x, "too few", x.pour(0, 3, 1, 0, 4), false, 4);
        Checks.due(x, "too few there", x.pour(0, 0, 1, 1, 4), false, 4);
        Checks.due(x, "place -1", x.pour(0, -1, 1, 0, 1), false, 4);
        Checks.due(x, "place -1 there", x.pour(0, 0, 1, -1, 1), false, 4);
        Checks.due(x, "much too many", x.pour(0, 1, 1, 1, Integer.MAX_VALUE), false, 4);
        Checks.due(x, "nothing changed", x.read(1, 0), 0, 0);
        Checks.due(x, "pour", x.pour(0, 2, 1, 0, 4), true, 0);
        Checks.due("the first", x.read(1, 0), 3);
        Checks.due("the last", x.read(1, 3), 6);
        Checks.due(x, "to the same one", x.pour(0, 0, 0, 2, 4), true, 0);
        long[] due = {1, 2, 1, 2, 3, 4};
        for (int i = 0; i < 6; i++) {
            Checks.due("as they were", x.read(0, i), due[i]);
        }
        Checks.due(x, "none", x.pour(0, 6, 1, 4, 0), true, 0);
    }

    private static void feedAndTape() {
        CheatHeap x = new CheatHeap();
        for (int i = 1; i <= 45; i++) {
            Checks.due("feed", x.feed(0x20202020, 0x20202020, 0x20202020, 0x20202020, 0x20202020), 20 * i);
        }
        Checks.due("901 and more", x.feed(1, 1, 1, 1, 1), NONE);
        Checks.due("no status", x.status(), 0);
        Checks.due(x, "n above", x.table(901), NONE, 5);
        Checks.due(x, "n below", x.table(-1), NONE, 5);
        Checks.due(x, "n below", x.round(-1), NONE, 5);
        Checks.due(x, "above 300", x.round(301), NONE, 5);
        Checks.due("5 leaves the tape", x.feed(1, 1, 1, 1, 1), NONE);
        Checks.due("and no fault", x.fault(0), NONE);
        Checks.due(x, "300 blanks", x.round(300), 0, 0);
        Checks.due("the tape is empty", x.feed(1, 1, 1, 1, 1), 20);
        Checks.due(x, "the first n bytes", x.table(4), NONE, 10);
        Checks.due("of each int the highest first", x.fault(1), 0);
        Checks.due("the tape is empty behind a fault", x.feed(1, 1, 1, 1, 1), 20);
        Checks.table(x, "");
        x = new CheatHeap();
        Checks.feed(x, "kinds 5 each 2;player a;");
        Checks.due(x, "only the first 15", x.table(15), 0, 0);
        Checks.due(x, "kinds", x.many(0), 5, 0);
    }

    private static void tableTexts() {
        CheatHeap x = new CheatHeap();
        Checks.due(x, "no blanks", Checks.table(x, "kinds2each1;player a lies3doubts4;player abcdefgh;law\ndown;most 0003;"), 2, 0);
        Checks.due(x, "law", x.many(3), 1, 0);
        Checks.due(x, "most", x.many(4), 3, 0);
        Checks.due(x, "hand", x.player(0, 2), 0, 0);
        Checks.due(x, "without players", Checks.table(x, " kinds 10 each 8 ; law same ;"), 0, 0);
        Checks.due(x, "kinds", x.many(0), 10, 0);
        Checks.due(x, "each", x.many(1), 8, 0);
        Checks.due(x, "law", x.many(3), 2, 0);
        Checks.due(x, "most", x.many(4), 4, 0);
        Checks.due(x, "six players", Checks.table(x, "kinds 2 each 4;player a lies 16 doubts 0;player b doubts 16;player c lies 0;"
            + "player d;player e;player f;hand f 4 of 1;hand a 0 of 1;"), 6, 0);
        Checks.due(x, "lies", x.player(0, 0), 16, 0);
        Checks.due(x, "doubts", x.player(1, 1), 16, 0);
        Checks.due(x, "hand", x.hand(5, 1), 4, 0);
        Checks.due(x, "in the game", x.inGame(1), 4, 0);
        Checks.due(x, "a laying", x.lay(0, -1, -1, -1), NONE, 9);
        x = Checks.withTable(TWO);
        x.lay(0, 1, -1, -1);
        x.doubt(1);
        x.bend(0, 5, 5);
        Checks.round(x, "turn;");
        Checks.table(x, TWO);
        Checks.due(x, "the heap is empty", x.many(7), 0, 0);
        Checks.due(x, "kind 0", x.many(5), 0, 0);
        Checks.due(x, "turn 0", x.many(6), 0, 0);
        Checks.due(x, "nothing shown", x.player(0, 3), 0, 0);
        Checks.due(x, "nothing untrue", x.player(0, 4), 0, 0);
        Checks.due(x, "lies as told", x.player(0, 0), 0, 0);
        Checks.due(x, "no round", x.play(0), NONE, 8);
        x.lay(0, 0, -1, -1);
        Checks.due(x, "a fault", Checks.table(x, "kinds 3"), NONE, 10);
        Checks.due(x, "the old one stays", x.many(7), 2, 0);
    }

    private static void tableFault(String text, int kind, int place) {
        CheatHeap x = Checks.withTable(THREE);
        Checks.due(x, text, Checks.table(x, text), NONE, 10);
        Checks.due("fault of " + text, x.fault(0), kind);
        Checks.due("place of " + text, x.fault(1), place);
        Checks.due(x, "the old table stays", x.many(2), 3, 0);
    }

    private static void tableFaults() {
        String head = "kinds 3 each 2;";
        int at = head.length();
        tableFault("", 2, 0);
        tableFault("  ", 2, 2);
        tableFault("kinds", 2, 5);
        tableFault("kinds 2 each 1", 2, 14);
        tableFault("kinds 2 each 1 ", 2, 15);
        tableFault("Kinds", 1, 0);
        tableFault("kindsX", 1, 5);
        tableFault("kinds 12345 each 1;", 1, 6);
        tableFault("kinds 1 each 1;", 4, 6);
        tableFault("kinds 11 each 1;", 4, 6);
        tableFault("kinds 2 each 0;", 4, 13);
        tableFault("kinds 2 each 9;", 4, 13);
        tableFault("kinds 2\teach 1;", 1, 7);
        tableFault(head + "\u00e9", 1, at);
        tableFault(head + "\0", 1, at);
        tableFault(head + ";", 2, at);
        tableFault(head + "lawful up;", 2, at);
        tableFault(head + "law left;", 2, at + 4);
        tableFault(head + "law up;law up;", 5, at + 7);
        tableFault(head + "most 2;most", 5, at + 7);
        tableFault(head + "most 0;", 4, at + 5);
        tableFault(head + "most 5;", 4, at + 5);
        tableFault(head + "most ;", 2, at + 5);
        tableFault(head + "player", 2, at + 6);
        tableFault(head + "player abcdefghi;", 2, at + 7);
        String[] reserved = {"kinds", "each", "law", "most", "player", "lies", "doubts", "hand", "of", "up", "down", "same",
            "turn", "when", "cards", "heap", "won", "shown", "loop", "end", "stop"};
        for (String word : reserved) {
            tableFault(head + "player " + word + ";", 2, at + 7);
        }
        Checks.withTable(head + "player ends; player o; player kind; player laws;");
        tableFault(head + "player a;player a;", 3, at + 16);
        tableFault(head + "player a lies 17;", 4, at + 14);
        tableFault(head + "player a doubts 17;", 4, at + 16);
        tableFault(head + "player a doubts 1 lies 1;", 2, at + 18);
        tableFault(head + "player a;player b;player c;player d;player e;player f;player", 6, at + 54);
        tableFault(head + "hand a 1 of 0;", 3, at + 5);
        tableFault(head + "player a;hand b 1 of 0;", 3, at + 14);
        tableFault(head + "player a;hand of 1 of 0;", 2, at + 14);
        tableFault(head + "player a;hand a 9 of 0;", 4, at + 16);
        tableFault(head + "player a;hand a 1 of 3;", 4, at + 21);
        tableFault(head + "player a;hand a 3 of 0;", 5, at + 21);
        tableFault(head + "player a;hand a 1 of 0;hand a 0 of 0;", 5, at + 35);
        tableFault(head + "player a;hand a 9 of 9;", 4, at + 16);
        tableFault(head + "player a;player b;hand a 1 of 2;hand b 2 of 2;", 5, at + 44);
        tableFault(head + "law up;law 99999", 5, at + 7);
        tableFault(head + "player a lies 99999;", 1, at + 14);
        tableFault(head + "player a lies 9999;", 4, at + 14);
    }

    private static void roundTexts() {
        CheatHeap x = Checks.withTable(TWO);
        Checks.due(x, "round", Checks.round(x, "turn;lies a 16;doubts b 0;when cards a<80;end;when heap=0;end;"
            + "when shown b>999;end;when won;end;loop 1;end;stop;"), 9, 0);
        Checks.due(x, "none", Checks.round(x, ""), 0, 0);
        Checks.due(x, "it is there", x.play(0), 0, 0);
        Checks.due(x, "thirty", Checks.round(x, "turn;".repeat(30)), 30, 0);
        Checks.due(x, "three deep", Checks.round(x, "loop 1;when won;loop 2;turn;end;end;end;loop 1;end;"), 5, 0);
    }

    private static void roundFault(String text, int kind, int place) {
        CheatHeap x = Checks.withTable(TWO);
        Checks.round(x, "lies a 1;");
        Checks.due(x, text, Checks.round(x, text), NONE, 10);
        Checks.due("fault of " + text, x.fault(0), kind);
        Checks.due("place of " + text, x.fault(1), place);
        Checks.due(x, "the old round stays", x.play(0), 1, 0);
        Checks.due("the tape is empty", x.feed(0, 0, 0, 0, 0), 20);
    }

    private static void roundFaults() {
        roundFault("turn", 2, 4);
        roundFault("turns;", 2, 0);
        roundFault("end;", 2, 0);
        roundFault("turn;end;", 2, 5);
        roundFault("loop 1;", 2, 7);
        roundFault("loop 1;end", 2, 10);
        roundFault("loop 1;turn; ", 2, 13);
        roundFault("loop 0;end;", 4, 5);
        roundFault("loop 100;end;", 4, 5);
        roundFault("loop 00100;end;", 1, 5);
        roundFault("lies c 1;", 3, 5);
        roundFault("lies turn 1;", 2, 5);
        roundFault("lies abcdefghi 1;", 2, 5);
        roundFault("doubts a 17;", 4, 9);
        roundFault("lies a;", 2, 6);
        roundFault("when;end;", 2, 4);
        roundFault("when heap 3;end;", 2, 10);
        roundFault("when heap ; 3;end;", 2, 10);
        roundFault("when heap > 81;end;", 4, 12);
        roundFault("when cards a > 81;end;", 4, 15);
        roundFault("when cards heap > 1;end;", 2, 11);
        roundFault("when cards c > 1;end;", 3, 11);
        roundFault("when shown a > 1000;end;", 4, 15);
        roundFault("when won > 1;end;", 2, 9);
        roundFault("turn;!", 1, 5);
        roundFault("turn;".repeat(31), 6, 150);
        roundFault("turn;".repeat(30) + "loop 1;", 6, 150);
        roundFault("turn;".repeat(30) + "go;", 2, 150);
        roundFault("loop 1;".repeat(4), 7, 21);
        roundFault("loop 1;when won;loop 1;when won;", 7, 23);
        roundFault("turn;".repeat(27) + "loop 1;loop 1;loop 1;loop 1;", 6, 156);
    }

    private static void faults() {
        CheatHeap x = Checks.withTable(TWO);
        Checks.round(x, "loop 1;when won;");
        Checks.due(x, "a text begins anew", Checks.round(x, "loop 1;loop 1;loop 1;end;end;end;"), 3, 0);
        Checks.round(x, "loop 1;");
        Checks.due(x, "an end without a beginning", Checks.round(x, "end;"), NONE, 10);
        Checks.table(x, "kinds 2 each 1;law down;most 2;player a;hand a 1 of 0;go");
        Checks.due(x, "a text begins anew", Checks.table(x, TWO + "law same;most 3;"), 2, 0);
        Checks.table(x, TWO);
        Checks.due(x, "most without", x.many(4), 4, 0);
        Checks.due(x, "law without", x.many(3), 0, 0);
        Checks.due("no fault", x.fault(0), 0);
        Checks.due("no place", x.fault(1), NONE);
        Checks.due("others", x.fault(2), NONE);
        Checks.due("others", x.fault(-1), NONE);
        Checks.round(x, "turn; go");
        Checks.due("fault", x.fault(0), 2);
        Checks.due("place", x.fault(1), 6);
        Checks.due(x, "5", x.table(99), NONE, 5);
        Checks.due("5 leaves it", x.fault(1), 6);
        Checks.round(x, "turn;");
        Checks.due("none", x.fault(0), 0);
        Checks.due("none", x.fault(1), NONE);
    }

    private static void counts() {
        CheatHeap x = Checks.withTable(THREE);
        int[] due = {4, 4, 3, 0, 2, 0, 0, 0, 0, NONE, 0};
        for (int what = 0; what < due.length; what++) {
            Checks.due(x, "many " + what, x.many(what), due[what], what == 9 ? 8 : 0);
        }
        Checks.due(x, "lies", x.player(0, 0), 3, 0);
        Checks.due(x, "doubts", x.player(0, 1), 5, 0);
        Checks.due(x, "cards", x.player(0, 2), 3, 0);
        Checks.due(x, "what 6", x.player(0, 6), NONE, 5);
        Checks.due(x, "what -1", x.player(2, -1), NONE, 5);
        Checks.due(x, "no player ahead of what", x.player(3, 9), NONE, 2);
        Checks.due(x, "no player", x.player(-1, 0), NONE, 2);
        Checks.due(x, "hand", x.hand(1, 1), 2, 0);
        Checks.due(x, "hand", x.hand(1, 3), 0, 0);
        Checks.due(x, "no kind", x.hand(1, 4), NONE, 2);
        Checks.due(x, "no kind", x.hand(1, -1), NONE, 2);
        Checks.due(x, "no player", x.hand(3, 0), NONE, 2);
        Checks.due(x, "in the game", x.inGame(0), 3, 0);
        Checks.due(x, "in the game", x.inGame(3), 0, 0);
        Checks.due(x, "no kind", x.inGame(4), NONE, 2);
        Checks.due(x, "no kind", x.inGame(-1), NONE, 2);
        x.lay(2, 0, -1, -1);
        Checks.due(x, "in the game still", x.inGame(0), 3, 0);
        Checks.due(x, "cards in the heap", x.player(0, 5), 2, 0);
        Checks.due(x, "cards", x.player(0, 2), 1, 0);
        Checks.due(x, "open", x.many(8), 1, 0);
        Checks.due(x, "layings", x.many(10), 1, 0);
        Checks.due(x, "the kind stays", x.many(5), 0, 0);
        x.leave();
        x.lay(1, -1, -1, -1);
        Checks.due(x, "two layings", x.many(10), 2, 0);
        Checks.due(x, "three cards", x.many(7), 3, 0);
        Checks.due(x, "the kind", x.many(5), 1, 0);
        Checks.due(x, "the turn", x.many(6), 1, 0);
    }

    private static void layingsInTheHeap() {
        CheatHeap x = Checks.withTable(THREE);
        x.lay(2, 0, -1, -1);
        x.leave();
        x.lay(0, -1, -1, -1);
        x.leave();
        x.lay(2, 2, -1, -1);
        int[][] due = {{0, 0, 2, 1}, {1, 1, 1, 2}, {2, 2, 2, 0}};
        for (int k = 0; k < 3; k++) {
            for (int what = 0; what < 4; what++) {
                Checks.due(x, "laying", x.laying(k, what), due[k][what], 0);
            }
        }
        Checks.due(x, "what ahead of k", x.laying(3, 4), NONE, 5);
        Checks.due(x, "what -1", x.laying(0, -1), NONE, 5);
        Checks.due(x, "no such", x.laying(3, 0), NONE, 8);
        Checks.due(x, "no such", x.laying(-1, 0), NONE, 8);
        Checks.due(x, "by kinds", x.cardOf(0, 0), 0, 0);
        Checks.due(x, "by kinds", x.cardOf(0, 1), 2, 0);
        Checks.due(x, "no such", x.cardOf(0, 2), NONE, 8);
        Checks.due(x, "no such", x.cardOf(0, -1), NONE, 8);
        Checks.due(x, "no such", x.cardOf(3, 0), NONE, 8);
        Checks.due(x, "no such", x.cardOf(-1, 0), NONE, 8);
        for (int what = 0; what < 3; what++) {
            Checks.due(x, "sorts", x.sorts(what), 1, 0);
        }
        Checks.due(x, "sorts 3", x.sorts(3), NONE, 5);
        Checks.due(x, "sorts -1", x.sorts(-1), NONE, 5);
        Checks.due(x, "truly", x.lies(0), 2, 0);
        Checks.due(x, "truly", x.lies(2), 3, 0);
        Checks.due(x, "truly", x.lies(3), 0, 0);
        Checks.due(x, "no kind", x.lies(4), NONE, 2);
        Checks.due(x, "no kind", x.lies(-1), NONE, 2);
        Checks.due(x, "said", x.said(1, 1), 1, 0);
        Checks.due(x, "said", x.said(1, 0), 0, 0);
        Checks.due(x, "said", x.said(2, 2), 1, 0);
        Checks.due(x, "no player", x.said(3, 0), NONE, 2);
        Checks.due(x, "no kind", x.said(0, 4), NONE, 2);
        x.doubt(0);
        Checks.due(x, "who doubts a true one takes it", x.player(0, 2), 6, 0);
        Checks.due(x, "nothing lies", x.lies(0), 0, 0);
        Checks.due(x, "no laying", x.laying(0, 0), NONE, 8);
        Checks.due(x, "none said", x.said(1, 1), 0, 0);
        Checks.due(x, "none true", x.sorts(0), 0, 0);
    }

    private static void theGreatestHeap() {
        StringBuilder table = new StringBuilder("kinds 10 each 8;most 1;player a;");
        for (int kind = 0; kind < 10; kind++) {
            table.append("hand a 8 of ").append(kind).append(';');
        }
        CheatHeap x = Checks.withTable(table.toString());
        for (int i = 0; i < 80; i++) {
            int kind = i * 3 / 24;
            Checks.due(x, "lay", x.lay(kind, NONE, NONE, NONE), i + 1, 0);
            Checks.due(x, "the latest", x.cardOf(i, 0), kind, 0);
            x.leave();
        }
        Checks.due(x, "cards", x.many(7), 80, 0);
        Checks.due(x, "layings", x.many(10), 80, 0);
        Checks.due(x, "won", x.many(9), 0, 0);
        int[] count = new int[10];
        for (int k = 0; k < 80; k++) {
            count[x.cardOf(k, 0)]++;
            Checks.due(x, "said", x.laying(k, 1), k % 10, 0);
            Checks.due(x, "sort", x.laying(k, 3), x.cardOf(k, 0) == k % 10 ? 0 : 2, 0);
        }
        for (int kind = 0; kind < 10; kind++) {
            Checks.due("of each eight", count[kind], 8);
            Checks.due(x, "of each eight", x.lies(kind), 8, 0);
            Checks.due(x, "said", x.said(0, kind), 8, 0);
        }
    }

    private static void copyHand() {
        CheatHeap x = Checks.withTable(THREE);
        x.tray(0, 3, 6);
        x.tray(1, 0, 3);
        x.tray(3, 0, 4);
        x.write(0, 4, 77);
        x.write(0, 1, 55);
        Checks.due(x, "no tray ahead of all", x.copyHand(3, 4), NONE, 1);
        Checks.due(x, "missing ahead of player", x.copyHand(3, 2), NONE, 3);
        Checks.due(x, "no player ahead of places", x.copyHand(3, 1), NONE, 2);
        Checks.due(x, "too few places", x.copyHand(0, 1), NONE, 4);
        Checks.due(x, "copy", x.copyHand(0, 0), 4, 0);
        Checks.due(x, "just places enough", x.copyHand(1, 3), 4, 0);
        Checks.due("copied", x.read(3, 1), 2);
        long[] due = {2, 0, 1, 0, 77, 0};
        for (int i = 0; i < due.length; i++) {
            Checks.due("copied", x.read(0, i), due[i]);
        }
    }

    private static void lay() {
        CheatHeap x = Checks.withTable(THREE);
        Checks.due(x, "no kind ahead of all", x.lay(-1, -1, -1, 4), NONE, 2);
        Checks.due(x, "no kind", x.lay(-2, -1, -1, -1), NONE, 2);
        Checks.due(x, "none", x.lay(-1, -1, -1, -1), NONE, 5);
        Checks.due(x, "behind a none", x.lay(-1, 0, -1, -1), NONE, 5);
        Checks.due(x, "behind a none", x.lay(0, -1, 0, -1), NONE, 5);
        Checks.due(x, "behind a none", x.lay(0, 0, -1, 0), NONE, 5);
        Checks.due(x, "behind a none", x.lay(0, -1, -1, 0), NONE, 5);
        Checks.due(x, "above most", x.lay(3, 3, 3, -1), NONE, 7);
        Checks.due(x, "above most", x.lay(3, 3, 3, 3), NONE, 7);
        Checks.due(x, "it has not these", x.lay(3, -1, -1, -1), NONE, 9);
        Checks.due(x, "it has one alone", x.lay(2, 2, -1, -1), NONE, 9);
        Checks.due(x, "nothing changed", x.player(0, 2), 3, 0);
        Checks.due(x, "lay", x.lay(0, 2, -1, -1), 2, 0);
        Checks.due(x, "hand", x.hand(0, 0), 1, 0);
        Checks.due(x, "hand", x.hand(0, 2), 0, 0);
        Checks.due(x, "one is open", x.lay(0, -1, -1, -1), NONE, 9);
        x = Checks.withTable(TWO);
        Checks.due(x, "four", x.lay(0, 1, 0, 0), 4, 0);
        x = new CheatHeap();
        Checks.due(x, "no players", x.lay(0, -1, -1, -1), NONE, 9);
    }

    private static void leaveAndWin() {
        CheatHeap x = Checks.withTable("kinds 2 each 3;player a;player b;hand a 2 of 0;hand b 1 of 1;hand b 1 of 0;");
        Checks.due(x, "nothing open", x.leave(), NONE, 8);
        x.lay(0, -1, -1, -1);
        Checks.due(x, "leave", x.leave(), 1, 0);
        Checks.due(x, "nobody has won", x.many(9), NONE, 8);
        Checks.due(x, "kind", x.many(5), 1, 0);
        x.lay(0, -1, -1, -1);
        Checks.due(x, "leave", x.leave(), 0, 0);
        Checks.due(x, "kind 0 behind the last", x.many(5), 0, 0);
        x.lay(0, -1, -1, -1);
        Checks.due(x, "not won while open", x.many(9), NONE, 8);
        Checks.due(x, "leave", x.leave(), 1, 0);
        Checks.due(x, "won", x.many(9), 0, 0);
        Checks.due(x, "no layings more", x.lay(1, -1, -1, -1), NONE, 9);
        Checks.due(x, "no best", x.best(0, 0), NONE, 9);
        Checks.due(x, "the turn", x.many(6), 1, 0);
        x = Checks.withTable("kinds 2 each 2;player a;hand a 2 of 0;");
        x.lay(0, -1, -1, -1);
        Checks.due(x, "alone", x.leave(), 0, 0);
        x.lay(0, -1, -1, -1);
        Checks.due(x, "alone it is not ready", x.ready(), NONE, 8);
        Checks.due(x, "alone it can't doubt", x.doubt(0), NONE, 5);
    }

    private static void doubt() {
        CheatHeap x = Checks.withTable(THREE);
        Checks.due(x, "no player", x.doubt(3), NONE, 2);
        Checks.due(x, "nothing open", x.doubt(0), NONE, 8);
        Checks.due(x, "nothing open", x.doubt(1), NONE, 8);
        x.lay(0, 2, -1, -1);
        Checks.due(x, "who laid it", x.doubt(0), NONE, 5);
        Checks.due(x, "no player", x.doubt(-1), NONE, 2);
        Checks.due(x, "mixed: back to who laid it", x.doubt(2), 0, 0);
        Checks.due(x, "who did not take it", x.many(6), 2, 0);
        Checks.due(x, "next kind", x.many(5), 1, 0);
        Checks.due(x, "hand", x.hand(0, 2), 1, 0);
        Checks.due(x, "shown", x.player(0, 3), 1, 0);
        Checks.due(x, "not true", x.player(0, 4), 1, 0);
        Checks.due(x, "not open", x.many(8), 0, 0);
        Checks.due(x, "heap", x.many(7), 0, 0);
        x.lay(2, -1, -1, -1);
        x.leave();
        x.lay(2, -1, -1, -1);
        Checks.due(x, "true: the doubter takes it", x.doubt(1), 1, 0);
        Checks.due(x, "all of it", x.hand(1, 2), 2, 0);
        Checks.due(x, "who laid it has the turn", x.many(6), 0, 0);
        Checks.due(x, "shown", x.player(0, 3), 2, 0);
        Checks.due(x, "not true", x.player(0, 4), 1, 0);
        Checks.due(x, "the doubter was not shown", x.player(1, 3), 0, 0);
        x = Checks.withTable("kinds 2 each 2;player a;player b;hand a 1 of 0;hand b 1 of 1;");
        x.lay(0, -1, -1, -1);
        Checks.due(x, "true", x.doubt(1), 1, 0);
        Checks.due(x, "won", x.many(9), 0, 0);
        x = Checks.withTable("kinds 2 each 2;player a;player b;hand a 1 of 1;hand b 1 of 0;");
        x.lay(1, -1, -1, -1);
        Checks.due(x, "false", x.doubt(1), 0, 0);
        Checks.due(x, "not won", x.many(9), NONE, 8);
        Checks.due(x, "kind", x.many(5), 1, 0);
    }

    private static void laws() {
        String rest = "player a;player b;hand a 4 of 0;hand b 4 of 1;";
        int[][] due = {{1, 2, 0}, {2, 1, 0}, {0, 1, 1}};
        String[] laws = {"", "law down;", "law same;"};
        for (int law = 0; law < 3; law++) {
            CheatHeap x = Checks.withTable("kinds 3 each 8;" + laws[law] + rest);
            Checks.due(x, "law", x.many(3), law, 0);
            x.lay(0, -1, -1, -1);
            x.leave();
            Checks.due(x, "left", x.many(5), due[law][0], 0);
            x.lay(1, -1, -1, -1);
            x.doubt(0);
            Checks.due(x, "doubted", x.many(5), due[law][1], 0);
            x.lay(x.many(6), -1, -1, -1);
            x.leave();
            Checks.due(x, "left again", x.many(5), due[law][2], 0);
        }
        CheatHeap x = Checks.withTable("kinds 2 each 8;law same;" + rest);
        x.lay(0, -1, -1, -1);
        x.doubt(1);
        Checks.due(x, "one more", x.many(5), 1, 0);
        x.lay(0, -1, -1, -1);
        x.doubt(1);
        Checks.due(x, "behind the last 0", x.many(5), 0, 0);
    }

    private static void bend() {
        CheatHeap x = Checks.withTable(THREE);
        Checks.due(x, "bend", x.bend(1, 16, 0), true, 0);
        Checks.due(x, "lies", x.player(1, 0), 16, 0);
        Checks.due(x, "doubts", x.player(1, 1), 0, 0);
        Checks.due(x, "no player ahead of numbers", x.bend(3, 17, 0), false, 2);
        Checks.due(x, "17", x.bend(0, 17, 0), false, 5);
        Checks.due(x, "17", x.bend(0, 0, 17), false, 5);
        Checks.due(x, "-1", x.bend(0, -1, 0), false, 5);
        Checks.due(x, "-1", x.bend(0, 0, -1), false, 5);
        Checks.due(x, "as it was", x.player(0, 0), 3, 0);
    }

    private static void whatOneCanKnow() {
        CheatHeap x = Checks.withTable(THREE);
        Checks.due(x, "nothing open", x.impossible(1), NONE, 8);
        Checks.due(x, "nothing open", x.blind(0), false, 8);
        Checks.due(x, "nothing open", x.belief(1), false, 8);
        Checks.due(x, "nothing open", x.worth(1), false, 8);
        x.lay(0, 2, -1, -1);
        Checks.due(x, "known", x.known(0, 0), 2, 0);
        Checks.due(x, "known", x.known(0, 2), 1, 0);
        Checks.due(x, "known", x.known(1, 0), 1, 0);
        Checks.due(x, "no player", x.known(3, 0), NONE, 2);
        Checks.due(x, "no kind", x.known(0, -1), NONE, 2);
        Checks.due(x, "unknown", x.unknown(1, 0), 2, 0);
        Checks.due(x, "unknown", x.unknown(1, NONE), 6, 0);
        Checks.due(x, "unknown", x.unknown(0, NONE), 6, 0);
        Checks.due(x, "no kind", x.unknown(0, -2), NONE, 2);
        Checks.due(x, "no kind", x.unknown(0, 4), NONE, 2);
        Checks.due(x, "no player", x.unknown(-1, 0), NONE, 2);
        Checks.due(x, "possible", x.impossible(1), 0, 0);
        Checks.due(x, "no player", x.impossible(3), NONE, 2);
        Checks.due(x, "who laid it", x.impossible(0), NONE, 5);
        Checks.fraction(x, "blind", x.blind(1), 1, 15);
        Checks.fraction(x, "blind", x.blind(2), 1, 5);
        Checks.due(x, "who laid it", x.blind(0), false, 5);
        Checks.due(x, "no player", x.blind(3), false, 2);
        Checks.fraction(x, "belief", x.belief(1), 1, 15);
        Checks.due(x, "who laid it", x.belief(0), false, 5);
        Checks.due(x, "no player", x.belief(-1), false, 2);
        Checks.fraction(x, "worth", x.worth(1), 26, 15);
        Checks.fraction(x, "worth", x.worth(2), 6, 5);
        Checks.due(x, "who laid it", x.worth(0), false, 5);
        Checks.due(x, "no player", x.worth(3), false, 2);
        x = Checks.withTable("kinds 2 each 3;player a;player b;hand a 2 of 1;hand b 2 of 0;");
        x.lay(1, -1, -1, -1);
        Checks.due(x, "impossible", x.impossible(1), 1, 0);
        Checks.fraction(x, "blind", x.blind(1), 0, 1);
        Checks.fraction(x, "belief", x.belief(1), 0, 1);
        Checks.fraction(x, "worth", x.worth(1), 1, 1);
    }

    private static void honestAndBelief() {
        CheatHeap x = Checks.withTable(TWO);
        Checks.fraction(x, "honest", x.honest(1), 1, 2);
        Checks.due(x, "no player", x.honest(2), false, 2);
        Checks.due(x, "the first of several", x.liar(), 0, 0);
        x.lay(0, -1, -1, -1);
        x.doubt(1);
        Checks.fraction(x, "a true one", x.honest(0), 2, 3);
        Checks.due(x, "liar", x.liar(), 1, 0);
        x.lay(0, -1, -1, -1);
        x.doubt(1);
        Checks.fraction(x, "and a false one", x.honest(0), 1, 2);
        x.lay(1, -1, -1, -1);
        x.doubt(0);
        Checks.fraction(x, "a false one", x.honest(1), 1, 3);
        Checks.due(x, "liar", x.liar(), 1, 0);
        x.lay(0, -1, -1, -1);
        Checks.due("the kind", x.many(5), 1);
        // PLAYER 1 has 3 of KIND 0 and 2 of 1: unknown are 2 of 0 and 1 of 1
        Checks.fraction(x, "blind", x.blind(1), 1, 3);
        Checks.fraction(x, "belief", x.belief(1), 1, 3);
        x.doubt(1);
        Checks.fraction(x, "honest", x.honest(0), 2, 5);
        x.lay(0, 0, 0, -1);
        // 3 of 0 are to be unknown to PLAYER 0, of 5 in all
        Checks.fraction(x, "blind", x.blind(0), 1, 10);
        Checks.fraction(x, "belief", x.belief(0), 1, 19);
    }

    private static void ready() {
        CheatHeap x = Checks.withTable(THREE);
        Checks.due(x, "nothing open", x.ready(), NONE, 8);
        x.lay(0, 2, -1, -1);
        Checks.due(x, "bob", x.ready(), 1, 0);
        x = Checks.withTable("kinds 2 each 4;player a;player b;player c;hand a 1 of 0;hand a 1 of 1;hand b 2 of 1;hand c 1 of 0;hand c 1 of 1;");
        x.lay(0, -1, -1, -1);
        Checks.fraction(x, "worth of b", x.worth(1), 0, 1);
        Checks.fraction(x, "worth of c", x.worth(2), 1, 2);
        Checks.due(x, "c", x.ready(), 2, 0);
        x.leave();
        x.lay(1, -1, -1, -1);
        Checks.fraction(x, "worth of a", x.worth(0), -1, 1);
        Checks.fraction(x, "worth of c", x.worth(2), -1, 1);
        Checks.due(x, "the next one first", x.ready(), 2, 0);
    }

    private static void inTheHeap() {
        CheatHeap x = Checks.withTable(THREE);
        Checks.fraction(x, "an empty heap", x.heap(0, 0), 0, 1);
        x.lay(0, 2, -1, -1);
        Checks.fraction(x, "its own", x.heap(0, 0), 1, 1);
        Checks.fraction(x, "others'", x.heap(1, 0), 2, 3);
        x.leave();
        x.lay(1, -1, -1, -1);
        // bob: two cards of others, 4 of 6 unknown ones are of KIND 2
        Checks.fraction(x, "both", x.heap(1, 2), 4, 3);
        Checks.fraction(x, "its own and none else", x.heap(1, 1), 1, 1);
        Checks.due(x, "no player", x.heap(3, 0), false, 2);
        Checks.due(x, "no kind", x.heap(0, 4), false, 2);
        Checks.due(x, "no kind", x.heap(0, -1), false, 2);
        x = Checks.withTable("kinds 2 each 3;player a;hand a 2 of 1;");
        x.lay(1, -1, -1, -1);
        Checks.fraction(x, "nothing unknown", x.heap(0, 1), 1, 1);
    }

    private static void turnsAndKinds() {
        CheatHeap x = Checks.withTable(THREE);
        int[] waits = {0, 1, 2};
        int[] openWaits = {3, 1, 2};
        for (int p = 0; p < 3; p++) {
            Checks.due(x, "waits", x.waits(p), waits[p], 0);
        }
        Checks.due(x, "no player", x.waits(3), NONE, 2);
        int[][] falls = {{0, 3, 2, 1}, {1, 0, 3, 2}, {2, 1, 0, 3}};
        for (int p = 0; p < 3; p++) {
            for (int r = 0; r < 4; r++) {
                Checks.due(x, "falls", x.falls(p, r), falls[p][r], 0);
            }
            Checks.due(x, "falls in 60", x.falls(p, 60), falls[p][0], 0);
        }
        Checks.due(x, "61", x.falls(0, 61), NONE, 5);
        Checks.due(x, "-1", x.falls(0, -1), NONE, 5);
        Checks.due(x, "no player ahead of r", x.falls(3, 61), NONE, 2);
        x.lay(0, -1, -1, -1);
        for (int p = 0; p < 3; p++) {
            Checks.due(x, "waits with an open one", x.waits(p), openWaits[p], 0);
        }
        Checks.due(x, "falls", x.falls(0, 0), 3, 0);
        Checks.due(x, "falls", x.falls(1, 0), 1, 0);
        x = Checks.withTable("kinds 3 each 2;law down;player a;player b;hand a 1 of 0;");
        Checks.due(x, "down", x.falls(0, 1), 1, 0);
        Checks.due(x, "down", x.falls(1, 0), 2, 0);
        Checks.due(x, "down", x.falls(1, 60), 2, 0);
        x = Checks.withTable("kinds 3 each 2;law same;player a;player b;hand a 1 of 0;");
        Checks.due(x, "same", x.falls(1, 7), 0, 0);
    }

    private static void ridAndLies() {
        CheatHeap x = Checks.withTable(THREE);
        int[] honestly = {0, 2, 2, 3, 3};
        for (int r = 0; r < 5; r++) {
            Checks.due(x, "honestly", x.honestly(0, r), honestly[r], 0);
        }
        Checks.due(x, "honestly", x.honestly(0, 60), 3, 0);
        Checks.due(x, "61", x.honestly(0, 61), NONE, 5);
        Checks.due(x, "-1", x.honestly(0, -1), NONE, 5);
        Checks.due(x, "no player", x.honestly(3, 0), NONE, 2);
        int[] rid = {3, 2, 5};
        int[] last = {2, 0, 2};
        int[] lie = {1, NONE, 1};
        for (int p = 0; p < 3; p++) {
            Checks.due(x, "rid", x.rid(p), rid[p], 0);
            Checks.due(x, "last kind", x.lastKind(p), last[p], 0);
            Checks.due(x, "must lie", x.mustLie(p), lie[p], lie[p] == NONE ? 8 : 0);
        }
        Checks.due(x, "last kind behind another's", x.lastKind(0), 2, 0);
        Checks.due(x, "must lie behind another's", x.mustLie(1), NONE, 8);
        Checks.due(x, "must lie behind another's", x.mustLie(2), 1, 0);
        Checks.due(x, "rid behind another's", x.rid(0), 3, 0);
        Checks.due(x, "soonest", x.soonest(), 1, 0);
        Checks.due(x, "no player", x.rid(3), NONE, 2);
        Checks.due(x, "no player", x.lastKind(-1), NONE, 2);
        Checks.due(x, "no player", x.mustLie(3), NONE, 2);
        // one PLAYER and ten KINDS: one card falls a TURN, so eight of KIND 9 go by the 80th
        x = Checks.withTable("kinds 10 each 8;most 1;player a;hand a 6 of 9;");
        Checks.due(x, "rid in 60", x.rid(0), 60, 0);
        Checks.due(x, "last kind", x.lastKind(0), 9, 0);
        Checks.due(x, "soonest", x.soonest(), 0, 0);
        x = Checks.withTable("kinds 10 each 8;most 1;player a;hand a 7 of 0;");
        Checks.due(x, "not in 60", x.rid(0), NONE, 8);
        Checks.due(x, "not in 60", x.lastKind(0), NONE, 8);
        Checks.due(x, "must lie", x.mustLie(0), 1, 0);
        Checks.due(x, "nobody is", x.soonest(), NONE, 8);
        StringBuilder all = new StringBuilder("kinds 10 each 8;most 1;player a;");
        for (int kind = 0; kind < 10; kind++) {
            all.append("hand a 7 of ").append(kind).append(';');
        }
        x = Checks.withTable(all.toString());
        Checks.due(x, "no lie in 60", x.mustLie(0), NONE, 8);
        Checks.due(x, "honestly", x.honestly(0, 60), 60, 0);
        x = Checks.withTable(TWO + "player c;");
        Checks.due(x, "no card", x.rid(2), 0, 0);
        Checks.due(x, "no card", x.lastKind(2), NONE, 8);
        Checks.due(x, "no card", x.mustLie(2), NONE, 8);
        Checks.due(x, "soonest", x.soonest(), 2, 0);
        Checks.due("of several the first", Checks.withTable("kinds 2 each 2;player a;player b;").soonest(), 0);
    }

    private static void best() {
        CheatHeap x = Checks.withTable(TWO);
        Checks.due(x, "d -1", x.best(-1, 0), NONE, 5);
        Checks.due(x, "d 17", x.best(17, 0), NONE, 5);
        Checks.due(x, "what 2", x.best(0, 2), NONE, 5);
        Checks.due(x, "what -1", x.best(0, -1), NONE, 5);
        Checks.due(x, "all by no doubts", x.best(0, 0), 3, 0);
        Checks.fraction(x, "best", x.best(0, 1) == 1, 0, 1);
        // 3 true ones leave 1 card; all 4 by d leave d by 4
        Checks.due(x, "as good: the fewest others", x.best(4, 1), 0, 0);
        Checks.fraction(x, "best", x.best(4, 0) == 3, 1, 1);
        Checks.fraction(x, "best", x.best(3, 1) == 1, 3, 4);
        Checks.due(x, "best", x.best(16, 1), 0, 0);
        x = Checks.withTable("kinds 2 each 8;most 2;player a;player b;hand a 5 of 1;hand b 2 of 0;hand b 3 of 1;");
        Checks.due(x, "none of the kind", x.best(16, 0), 0, 0);
        Checks.fraction(x, "it takes back what it lays", x.best(16, 1) == 1, 5, 1);
        Checks.fraction(x, "by 15", x.best(15, 1) == 2, 39, 8);
        x.lay(1, -1, -1, -1);
        Checks.due(x, "one is open", x.best(0, 0), NONE, 9);
        x.leave();
        // b has 5: 2 of KIND 1, or 3 with the heap's one by 16
        Checks.fraction(x, "true ones", x.best(16, 0) == 2, 3, 1);
        x = new CheatHeap();
        Checks.due(x, "5 ahead of 8", x.best(17, 0), NONE, 5);
        Checks.due(x, "no players", x.best(0, 0), NONE, 8);
        x = Checks.withTable("kinds 2 each 8;player a;player b;hand b 1 of 0;");
        Checks.due(x, "no card", x.best(0, 0), NONE, 9);
    }

    private static void sayer() {
        CheatHeap x = Checks.withTable(THREE);
        int[] due = {0, 1, 2, 0};
        for (int kind = 0; kind < 4; kind++) {
            Checks.due(x, "sayer", x.sayer(kind), due[kind], 0);
        }
        Checks.due(x, "no kind", x.sayer(4), NONE, 2);
        Checks.due(x, "no kind", x.sayer(-1), NONE, 2);
        x.lay(0, -1, -1, -1);
        Checks.due(x, "once it is said", x.sayer(0), 1, 0);
        Checks.due(x, "sayer", x.sayer(1), 1, 0);
        x = Checks.withTable("kinds 5 each 4;law down;player a;player b;hand a 1 of 0;");
        Checks.due(x, "down", x.sayer(4), 1, 0);
        Checks.due(x, "down", x.sayer(1), 0, 0);
        x = Checks.withTable("kinds 5 each 4;law same;player a;player b;hand a 2 of 0;");
        Checks.due(x, "same", x.sayer(0), 0, 0);
        Checks.due(x, "never", x.sayer(1), NONE, 8);
        x.lay(0, -1, -1, -1);
        Checks.due(x, "the next one", x.sayer(0), 1, 0);
        x = new CheatHeap();
        Checks.due(x, "no players", x.sayer(0), NONE, 8);
        Checks.due(x, "no kind ahead", x.sayer(2), NONE, 2);
    }

    private static void sets() {
        CheatHeap x = Checks.withTable(THREE);
        Checks.due(x, "has", x.has(0), 5, 0);
        Checks.due(x, "has", x.has(1), 3, 0);
        Checks.due(x, "has", x.has(2), 4, 0);
        Checks.due(x, "no player", x.has(3), NONE, 2);
        Checks.due(x, "fullest", x.fullest(), 0, 0);
        x.lay(2, -1, -1, -1);
        Checks.due(x, "has", x.has(0), 1, 0);
        Checks.due(x, "fullest", x.fullest(), 1, 0);
        Checks.due(x, "quartet", x.quartet(1), 1, 0);
        Checks.due(x, "none", x.quartet(0), NONE, 8);
        Checks.due(x, "none", x.quartet(2), NONE, 8);
        Checks.due(x, "no player", x.quartet(3), NONE, 2);
        x = new CheatHeap();
        Checks.due(x, "no players", x.fullest(), NONE, 8);
        Checks.due(x, "no players", x.liar(), NONE, 8);
        Checks.due(x, "no players", x.soonest(), NONE, 8);
        x = Checks.withTable("kinds 2 each 2;player a;player b;");
        Checks.due(x, "of several the first", x.fullest(), 0, 0);
    }

    private static void guess() {
        CheatHeap x = Checks.withTable(THREE);
        // unknown to ann: 1 of 0, 2 of 1, 3 of 2
        Checks.fraction(x, "none", x.guess(0, 3, 0), 1, 1);
        Checks.fraction(x, "one", x.guess(0, 2, 1), 1, 2);
        Checks.fraction(x, "two", x.guess(0, 1, 2), 1, 15);
        Checks.fraction(x, "three", x.guess(0, 2, 3), 1, 20);
        Checks.fraction(x, "four", x.guess(0, 2, 4), 0, 1);
        Checks.due(x, "five", x.guess(0, 0, 5), false, 5);
        Checks.due(x, "-1", x.guess(0, 0, -1), false, 5);
        Checks.due(x, "no player ahead", x.guess(3, 0, 5), false, 2);
        Checks.due(x, "no kind", x.guess(0, 4, 1), false, 2);
        x = Checks.withTable("kinds 2 each 8;player a;player b;hand a 8 of 0;hand b 3 of 1;");
        Checks.fraction(x, "all", x.guess(0, 1, 3), 1, 1);
        Checks.due(x, "fewer", x.guess(0, 1, 4), false, 9);
    }

    // the draws by seed 0 are 2, 13, 6
    private static void play() {
        String table = "kinds 2 each 4;player a lies LL;player b doubts DD;hand a 1 of 0;hand a 1 of 1;hand b 2 of 0;";
        CheatHeap x = Checks.withTable(table.replace("LL", "3").replace("DD", "0"));
        Checks.due(x, "no round", x.play(0), NONE, 8);
        Checks.round(x, "turn;");
        Checks.due(x, "seed -1", x.play(-1), NONE, 5);
        Checks.due(x, "seed 10000", x.play(10000), NONE, 5);
        Checks.due(x, "not played", x.played(0), NONE, 8);
        Checks.due(x, "play", x.play(0), 1, 0);
        // it lies, and b has two of three: it is known, without a draw
        int[] counts = {0, 1, 1, 1, 0};
        for (int what = 0; what < 5; what++) {
            Checks.due(x, "played", x.played(what), counts[what], 0);
        }
        Checks.due(x, "what 5", x.played(5), NONE, 5);
        Checks.due(x, "what -1", x.played(-1), NONE, 5);
        Checks.due(x, "it stays so", x.player(0, 4), 1, 0);
        Checks.due(x, "the turn", x.many(6), 1, 0);
        x = Checks.withTable(table.replace("LL", "2").replace("DD", "13"));
        Checks.round(x, "turn;");
        x.play(0);
        Checks.due(x, "2 is not less than 2, 13 not less than 13", x.many(7), 1, 0);
        Checks.due(x, "left", x.many(6), 1, 0);
        x = Checks.withTable(table.replace("LL", "2").replace("DD", "14"));
        Checks.round(x, "turn;");
        x.play(0);
        Checks.due(x, "doubted", x.played(2), 1, 0);
        Checks.due(x, "wrongly", x.played(3), 0, 0);
        Checks.due(x, "b takes it", x.player(1, 2), 3, 0);
        Checks.due(x, "a has the turn", x.many(6), 0, 0);
    }

    private static void playedCounts() {
        noDrawForLies();
        // none of the KIND: one other without a draw, of the KIND of which it has the most, the first of several
        CheatHeap x = Checks.withTable("kinds 4 each 8;player a;player b;player c;hand a 1 of 1;hand a 2 of 2;hand a 2 of 3;"
            + "hand b 1 of 0;hand c 1 of 0;");
        Checks.round(x, "turn;");
        x.play(0);
        Checks.due(x, "one card", x.hand(0, 2), 1, 0);
        Checks.due(x, "the other ones stay", x.player(0, 2), 4, 0);
        Checks.due(x, "left", x.played(2), 0, 0);
        x = Checks.withTable("kinds 4 each 8;player a;player b doubts 3;hand a 1 of 1;hand a 2 of 2;hand a 2 of 3;hand b 1 of 0;");
        Checks.round(x, "turn;");
        x.play(0);
        Checks.due(x, "b knows", x.played(3), 1, 0);
        Checks.due(x, "a has it back", x.hand(0, 2), 2, 0);
        // an open LAYING is LEFT first; who laid it has WON then, and all is MISSED
        x = Checks.withTable("kinds 2 each 4;player a;player b;hand a 1 of 0;hand b 2 of 1;");
        Checks.round(x, "turn;turn;");
        x.lay(0, -1, -1, -1);
        Checks.due(x, "play", x.play(5), 2, 0);
        Checks.due(x, "won", x.many(9), 0, 0);
        Checks.due(x, "missed", x.played(0), 2, 0);
        Checks.due(x, "no layings", x.played(1), 0, 0);
        Checks.due(x, "not open", x.many(8), 0, 0);
        x = Checks.withTable("kinds 2 each 4;player a;hand a 2 of 0;");
        Checks.round(x, "turn;");
        x.play(0);
        Checks.due(x, "no two players", x.played(0), 1, 0);
        x = Checks.withTable("kinds 2 each 4;player a;player b;hand b 2 of 0;");
        Checks.round(x, "turn;");
        x.play(0);
        Checks.due(x, "no card", x.played(0), 1, 0);
        x = new CheatHeap();
        Checks.round(x, "turn;");
        Checks.due(x, "no players", x.play(0), 1, 0);
        Checks.due(x, "missed", x.played(0), 1, 0);
    }

    // the first draw by seed 0, 2, is b's then
    private static void noDrawForLies() {
        String[] tables = {"kinds 2 each 4;player a lies 16;player b doubts 3;hand a 1 of 0;hand b 1 of 1;",
            "kinds 2 each 4;most 1;player a lies 16;player b doubts 3;hand a 1 of 0;hand a 1 of 1;hand b 1 of 1;"};
        for (String table : tables) {
            CheatHeap x = Checks.withTable(table);
            Checks.round(x, "turn;");
            x.play(0);
            Checks.due(x, "doubted", x.played(2), 1, 0);
            x = Checks.withTable(table.replace("doubts 3", "doubts 2"));
            Checks.round(x, "turn;");
            x.play(0);
            Checks.due(x, "not doubted", x.played(2), 0, 0);
        }
    }

    private static int steps(String table, String round) {
        CheatHeap x = Checks.withTable(table);
        Checks.round(x, round);
        Checks.due("the round is taken: " + round, x.status(), 0);
        return 10 * x.play(0) + x.played(4);
    }

    private static void playSteps() {
        Checks.due("loop", steps(TWO, "loop 3;lies a 1;end;"), 40);
        Checks.due("loops", steps(TWO, "loop 3;loop 2;lies a 1;end;end;"), 100);
        Checks.due("stop", steps(TWO, "loop 3;stop;end;lies a 1;"), 20);
        Checks.due("exactly 300", steps(TWO, "loop 99;lies a 1;lies a 2;lies a 3;end;lies a 1;lies a 1;"), 3000);
        Checks.due("one more", steps(TWO, "loop 99;lies a 1;lies a 2;lies a 3;end;lies a 1;lies a 1;stop;"), 3001);
        Checks.due("stop as the 300th", steps(TWO, "loop 99;lies a 1;lies a 2;lies a 3;end;lies a 1;stop;stop;"), 3000);
        Checks.due("an empty loop as the 300th", steps(TWO, "loop 99;lies a 1;lies a 2;lies a 3;end;lies a 1;loop 9;end;"), 3000);
        Checks.due("a when as the 300th", steps(TWO, "loop 99;lies a 1;lies a 2;lies a 3;end;lies a 1;when won;turn;end;"), 3000);
        Checks.due("a true one", steps(TWO, "loop 99;lies a 1;lies a 2;lies a 3;end;lies a 1;when heap=0;turn;end;"), 3001);
        Checks.due("within a loop", steps(TWO, "loop 99;lies a 1;lies a 2;lies a 3;lies a 4;end;"), 3001);
        String[] yes = {"cards a = 4", "cards a < 5", "cards a > 3", "heap = 0", "heap < 1", "shown a = 0", "shown b < 1"};
        String[] not = {"cards a = 3", "cards a < 4", "cards a > 4", "heap > 0", "heap < 0", "shown a > 0", "won"};
        for (String test : yes) {
            Checks.due(test, steps(TWO, "when " + test + ";stop;end;turn;turn;"), 20);
        }
        for (String test : not) {
            Checks.due(test, steps(TWO, "when " + test + ";stop;end;turn;turn;"), 30);
        }
        CheatHeap x = Checks.withTable(TWO);
        Checks.round(x, "loop 99;lies a 1;lies a 2;lies a 3;lies a 4;end;");
        Checks.due(x, "cut", x.play(0), 300, 0);
        Checks.due(x, "cut", x.played(4), 1, 0);
        Checks.round(x, "lies b 7; doubts a 9;");
        Checks.due(x, "and not cut", x.play(0), 2, 0);
        Checks.due(x, "and not cut", x.played(4), 0, 0);
        x.play(9999);
        Checks.due(x, "lies", x.player(1, 0), 7, 0);
        Checks.due(x, "doubts", x.player(0, 1), 9, 0);
        x = Checks.withTable("kinds 2 each 4;player a;player b;hand a 1 of 0;hand b 2 of 1;");
        Checks.round(x, "turn;when won;lies b 3;end;");
        x.play(0);
        Checks.due(x, "won", x.player(1, 0), 3, 0);
    }

    private static void winsAndLeft() {
        CheatHeap x = Checks.withTable("kinds 2 each 8;player a lies 8;player b;hand a 1 of 0;hand a 1 of 1;hand b 1 of 0;hand b 1 of 1;");
        Checks.due(x, "no round", x.wins(0, 0, 1), false, 8);
        Checks.due(x, "no round", x.left(0, 0, 1), false, 8);
        Checks.round(x, "turn;turn;turn;");
        Checks.due(x, "no player ahead of all", x.wins(2, -1, 0), false, 2);
        Checks.due(x, "no player", x.left(-1, 0, 1), false, 2);
        int[][] bad = {{-1, 1}, {0, 0}, {0, 21}, {10000, 1}, {9999, 2}, {9990, 11}, {0, -1}, {Integer.MAX_VALUE, 20}};
        for (int[] v : bad) {
            Checks.due(x, "wins " + v[0] + " " + v[1], x.wins(0, v[0], v[1]), false, 5);
            Checks.due(x, "left " + v[0] + " " + v[1], x.left(0, v[0], v[1]), false, 5);
        }
        Checks.due(x, "the last 9999", x.wins(0, 9999, 1), true, 0);
        Checks.due(x, "the last 9999", x.left(0, 9980, 20), true, 0);
        int won = 0;
        int cards = 0;
        for (int seed = 3; seed < 23; seed++) {
            x.mark();
            x.play(seed);
            won += x.many(9) == 0 ? 1 : 0;
            cards += x.player(0, 2);
            x.back();
        }
        Checks.due(x, "wins", x.wins(0, 3, 20), true, 0);
        Checks.due("so many", x.top() * 20, won * x.bottom());
        Checks.due(x, "left", x.left(0, 3, 20), true, 0);
        Checks.due("so many", x.top() * 20, cards * x.bottom());
        Checks.due("not all alike", won > 0 && won < 20, true);
        Checks.due(x, "all stays", x.many(7), 0, 0);
        Checks.due(x, "all stays", x.player(0, 2), 2, 0);
        int layings = x.played(1);
        x.wins(0, 0, 1);
        Checks.due(x, "played is of play", x.played(1), layings, 0);
    }

    private static void marks() {
        CheatHeap x = Checks.withTable(TWO);
        Checks.due(x, "none", x.back(), NONE, 8);
        Checks.round(x, "turn;turn;");
        Checks.due(x, "mark", x.mark(), 1, 0);
        x.lay(0, 1, -1, -1);
        Checks.due(x, "mark", x.mark(), 2, 0);
        x.doubt(1);
        x.bend(0, 9, 9);
        Checks.round(x, "stop;");
        Checks.due(x, "mark", x.mark(), 3, 0);
        Checks.due(x, "a fourth", x.mark(), NONE, 7);
        Checks.table(x, THREE);
        Checks.due(x, "three players", x.many(2), 3, 0);
        Checks.due(x, "back", x.back(), 2, 0);
        Checks.due(x, "two players", x.many(2), 2, 0);
        Checks.due(x, "bent", x.player(0, 0), 9, 0);
        Checks.due(x, "the round", x.play(0), 1, 0);
        Checks.due(x, "back", x.back(), 1, 0);
        Checks.due(x, "open", x.many(8), 1, 0);
        Checks.due(x, "said", x.said(0, 0), 1, 0);
        Checks.due(x, "a card", x.cardOf(0, 1), 1, 0);
        Checks.due(x, "not bent", x.player(0, 0), 0, 0);
        Checks.due(x, "not shown", x.player(0, 3), 0, 0);
        Checks.due(x, "back", x.back(), 0, 0);
        Checks.due(x, "not open", x.many(8), 0, 0);
        Checks.due(x, "the round", x.play(0), 2, 0);
        Checks.due(x, "gone", x.back(), NONE, 8);
        Checks.due(x, "a name told once more", Checks.round(x, "lies b 3;"), 1, 0);
    }
}
