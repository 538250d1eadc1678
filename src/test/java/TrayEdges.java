/** A new object, STATUS, FRACTIONS and TRAYS: promises 1 to 8. */
final class TrayEdges {
    private static final int NONE = CheatHeap.NONE;
    private static final int MIN = Integer.MIN_VALUE;
    private static final int MAX = Integer.MAX_VALUE;

    private TrayEdges() {
    }

    static void run() {
        aNewObjectsTable();
        aNewObjectsRest();
        statusOfTheLatestCall();
        fractions();
        fractionsWithoutDivisor();
        noSuchTray();
        cutNumbers();
        trayLengths();
        traysMadeAnew();
        places();
        pouringRefused();
        pouringInOrder();
        pouringBounds();
        pouringWithinOne();
    }

    private static void aNewObjectsTable() {
        CheatHeap x = new CheatHeap();
        Checks.says(1, "STATUS 0, the FRACTION 0 by 1.");
        Checks.due("status", x.status(), 0);
        Checks.due("top", x.top(), 0);
        Checks.due("bottom", x.bottom(), 1);
        Checks.says(1, "a TABLE of 2 KINDS, 1 of EACH, without PLAYERS");
        int[] due = {2, 1, 0, 0, 4, 0, NONE, 0, 0, NONE, 0};
        for (int what = 0; what < due.length; what++) {
            Checks.due(x, "many " + what, x.many(what), due[what], due[what] == NONE ? 8 : 0);
        }
        Checks.due(x, "none in the game", x.inGame(0), 0, 0);
        Checks.due(x, "none in the game", x.inGame(1), 0, 0);
        Checks.due(x, "no third KIND", x.inGame(2), NONE, 2);
        Checks.due(x, "no PLAYER 0", x.player(0, 0), NONE, 2);
        Checks.due(x, "no PLAYER 0", x.hand(0, 0), NONE, 2);
        Checks.due(x, "no LAYING", x.laying(0, 0), NONE, 8);
    }

    private static void aNewObjectsRest() {
        CheatHeap x = new CheatHeap();
        Checks.says(1, "TRAYS are MISSING");
        for (int t = 0; t < 4; t++) {
            Checks.due(x, "read", x.read(t, 0), NONE, 3);
            Checks.due(x, "write", x.write(t, 0, 1), false, 3);
            Checks.due(x, "pour", x.pour(t, 0, t, 0, 0), false, 3);
            Checks.due(x, "copyHand", x.copyHand(0, t), NONE, 3);
        }
        Checks.says(1, "no ROUND, MARKS, an empty tape");
        Checks.due(x, "no ROUND", x.play(0), NONE, 8);
        Checks.due(x, "no play", x.played(0), NONE, 8);
        Checks.due(x, "no MARK", x.back(), NONE, 8);
        Checks.due(x, "nothing on the tape", x.table(1), NONE, 5);
        Checks.due(x, "nothing on the tape", x.round(1), NONE, 5);
        Checks.due("the first twenty", x.feed(0, 0, 0, 0, 0), 20);
        for (int i = 1; i <= 3; i++) {
            Checks.due(x, "three MARKS are free", x.mark(), i, 0);
        }
    }

    private static void statusOfTheLatestCall() {
        Checks.says(2, "The STATUS of the latest call that has one.");
        Checks.says(0, "status(), fault(), feed(), top(), bottom() have none.");
        CheatHeap x = new CheatHeap();
        x.read(0, 0);
        Checks.due("status", x.status(), 3);
        Checks.due("once more", x.status(), 3);
        x.top();
        x.bottom();
        x.fault(0);
        x.fault(9);
        for (int i = 0; i < 46; i++) {
            x.feed(0, 0, 0, 0, 0);
        }
        Checks.due("a refused feed, too", x.status(), 3);
        x.many(0);
        Checks.due("a good one", x.status(), 0);
        x.read(4, 0);
        Checks.due("a bad one", x.status(), 1);
        x.feed(0, 0, 0, 0, 0);
        Checks.due("still", x.status(), 1);
    }

    private static void fractions() {
        Checks.says(3, "The top of the FRACTION told latest (below 0, too).");
        CheatHeap x = Checks.withTable("kinds 2 each 4;player a;player b;hand a 2 of 0;hand a 1 of 1;hand b 1 of 1;");
        x.lay(0, NONE, NONE, NONE);
        // 2 of the 3 cards that b does not know are of KIND 0
        Checks.fraction(x, "worth", x.worth(1), -1, 3);
        Checks.says(4, "Its bottom, above 0.");
        Checks.due("above 0 behind a top below 0", x.bottom(), 3);
        Checks.due(x, "a refused call", x.worth(0), false, 5);
        Checks.due("leaves the top", x.top(), -1);
        Checks.due("leaves the bottom", x.bottom(), 3);
        x.many(0);
        Checks.due("so does one that tells none", x.top(), -1);
        Checks.fraction(x, "the latest", x.honest(0), 1, 2);
    }

    private static void fractionsWithoutDivisor() {
        Checks.says(0, "FRACTIONS are told by top() and bottom() without a common divisor, the bottom above 0; 0 is 0 by 1.");
        CheatHeap x = Checks.withTable("kinds 3 each 8;player a;player b;hand a 6 of 0;hand a 2 of 1;hand b 2 of 2;");
        x.lay(0, 0, NONE, NONE);
        Checks.fraction(x, "30 by 56", x.blind(1), 15, 28);
        Checks.fraction(x, "2 times -2 by 56", x.worth(1), -1, 7);
        Checks.fraction(x, "2 times 6 by 8", x.heap(1, 0), 3, 2);
        Checks.fraction(x, "a whole number", x.guess(1, 0, 0), 1, 1);
        Checks.fraction(x, "0 by 28", x.guess(1, 2, 2), 0, 1);
        Checks.fraction(x, "0 by 8", x.heap(1, 2), 0, 1);
    }

    private static void noSuchTray() {
        Checks.says(0, "TRAYS, 0 to 3, are MISSING at first");
        CheatHeap x = new CheatHeap();
        for (int t : new int[] {MIN, -1, 4, MAX}) {
            Checks.due(x, "tray " + t, x.tray(t, 0, 1), false, 1);
            Checks.due(x, "write " + t, x.write(t, 0, 1), false, 1);
            Checks.due(x, "read " + t, x.read(t, 0), NONE, 1);
            Checks.due(x, "pour from " + t, x.pour(t, 0, 0, 0, 0), false, 1);
            Checks.due(x, "pour to " + t, x.pour(0, 0, t, 0, 0), false, 1);
            Checks.due(x, "copyHand " + t, x.copyHand(0, t), NONE, 1);
        }
        for (int t = 0; t < 4; t++) {
            Checks.due(x, "tray " + t, x.tray(t, t, t + 1), true, 0);
            Checks.due(x, "its last place", x.write(t, t, t + 5), true, 0);
        }
        for (int t = 0; t < 4; t++) {
            Checks.due(x, "each has its own", x.read(t, t), t + 5, 0);
            Checks.due(x, "and no more", x.read(t, t + 1), NONE, 4);
        }
    }

    private static void cutNumbers() {
        Checks.says(0, "or rows of numbers of 8 bits (sort 0), 16 (1), 32 (2) or 64 (3), with sign; what is written is cut to these.");
        CheatHeap x = new CheatHeap();
        for (int sort = 0; sort < 4; sort++) {
            int bits = 8 << sort;
            long least = -1L << (bits - 1);
            long most = ~least;
            x.tray(0, sort, 1);
            long[] kept = {0, 1, -1, most, least, most - 1, least + 1};
            for (long v : kept) {
                x.write(0, 0, v);
                Checks.due(x, bits + " bits keep " + v, x.read(0, 0), v, 0);
            }
            x.write(0, 0, most + 1);
            Checks.due(x, bits + " bits: one above the greatest", x.read(0, 0), least, 0);
            x.write(0, 0, least - 1);
            Checks.due(x, bits + " bits: one below the least", x.read(0, 0), most, 0);
            x.write(0, 0, 0x123456789ABCDEF7L);
            Checks.due(x, bits + " bits: the lowest are kept", x.read(0, 0), new long[] {-9, -8457, -1698898185, 0x123456789ABCDEF7L}[sort], 0);
        }
    }

    private static void trayLengths() {
        Checks.says(5, "A TRAY is a row of so many numbers (at most 60; 5), all 0 (1; 5; 6).");
        Checks.says(0, "6 below 0 (a TRAY's length).");
        CheatHeap x = new CheatHeap();
        Checks.due(x, "sixty", x.tray(0, 3, 60), true, 0);
        Checks.due(x, "the sixtieth", x.write(0, 59, 1), true, 0);
        Checks.due(x, "no 61st", x.write(0, 60, 1), false, 4);
        Checks.due(x, "61", x.tray(1, 3, 61), false, 5);
        Checks.due(x, "many", x.tray(1, 3, MAX), false, 5);
        Checks.due(x, "-1", x.tray(1, 3, -1), false, 6);
        Checks.due(x, "below", x.tray(1, 3, MIN), false, 6);
        Checks.due(x, "it is not made", x.read(1, 0), NONE, 3);
        Checks.due(x, "none", x.tray(1, 3, 0), true, 0);
        Checks.due(x, "it is there, without a place", x.read(1, 0), NONE, 4);
        Checks.due(x, "it is there, without a place", x.write(1, 0, 1), false, 4);
        Checks.says(0, "1 no such TRAY (or sort).");
        for (int sort : new int[] {MIN, -1, 4, MAX}) {
            Checks.due(x, "sort " + sort, x.tray(0, sort, 1), false, 1);
            Checks.due(x, "ahead of 5", x.tray(0, sort, 61), false, 1);
            Checks.due(x, "ahead of 6", x.tray(0, sort, -1), false, 1);
        }
        Checks.due(x, "ahead of 5", x.tray(4, 0, 61), false, 1);
        Checks.due(x, "ahead of 6", x.tray(-1, 0, -1), false, 1);
    }

    private static void traysMadeAnew() {
        Checks.says(5, "all 0 (1; 5; 6)");
        CheatHeap x = new CheatHeap();
        x.tray(2, 3, 60);
        for (int i = 0; i < 60; i++) {
            Checks.due(x, "0 at first", x.read(2, i), 0, 0);
            x.write(2, i, 1000 + i);
        }
        x.tray(2, 3, 61);
        x.tray(2, 3, -1);
        x.tray(2, 4, 60);
        Checks.due(x, "a refused call leaves it", x.read(2, 59), 1059, 0);
        x.tray(2, 0, 2);
        Checks.due(x, "a shorter one", x.read(2, 2), NONE, 4);
        x.tray(2, 2, 60);
        for (int i = 0; i < 60; i++) {
            Checks.due(x, "0 once more", x.read(2, i), 0, 0);
        }
        x.write(2, 0, 1L << 31);
        Checks.due(x, "of the new sort", x.read(2, 0), MIN, 0);
    }

    private static void places() {
        Checks.says(6, "A number comes to a place of a TRAY (1; 3; 4).");
        Checks.says(0, "3 the TRAY is MISSING. 4 a place that the TRAY has not, or too few numbers.");
        CheatHeap x = new CheatHeap();
        x.tray(0, 3, 5);
        for (int i = 0; i < 5; i++) {
            Checks.due(x, "write", x.write(0, i, 10 - 3 * i), true, 0);
        }
        int[] bad = {MIN, -1, 5, 60, MAX};
        for (int place : bad) {
            Checks.due(x, "write to " + place, x.write(0, place, 7), false, 4);
            Checks.due(x, "no TRAY ahead", x.write(4, place, 7), false, 1);
            Checks.due(x, "MISSING ahead", x.write(1, place, 7), false, 3);
        }
        Checks.says(7, "The number in a place of a TRAY; STATUS tells NONE from -1 (1; 3; 4).");
        for (int place : bad) {
            Checks.due(x, "read " + place, x.read(0, place), NONE, 4);
            Checks.due(x, "no TRAY ahead", x.read(-1, place), NONE, 1);
            Checks.due(x, "MISSING ahead", x.read(1, place), NONE, 3);
        }
        long[] due = {10, 7, 4, 1, -2};
        for (int i = 0; i < 5; i++) {
            Checks.due(x, "as written", x.read(0, i), due[i], 0);
        }
        x.write(0, 2, -1);
        Checks.due(x, "-1 is a number", x.read(0, 2), -1, 0);
    }

    private static void pouringRefused() {
        Checks.says(8, "1, 3 (either), 11, 6, 4, asked in this order.");
        Checks.says(0, "11 TRAYS of unlike sorts.");
        CheatHeap x = new CheatHeap();
        x.tray(0, 1, 4);
        x.tray(1, 2, 4);
        Checks.due(x, "1 ahead of 3", x.pour(3, 0, 4, 0, 1), false, 1);
        Checks.due(x, "1 ahead of 3", x.pour(-1, 0, 3, 0, 1), false, 1);
        Checks.due(x, "1 ahead of 6", x.pour(4, 0, 0, 0, -1), false, 1);
        Checks.due(x, "1 ahead of 4", x.pour(0, 9, -1, 0, 1), false, 1);
        Checks.due(x, "3: the first", x.pour(2, 0, 1, 0, 1), false, 3);
        Checks.due(x, "3: the other", x.pour(1, 0, 2, 0, 1), false, 3);
        Checks.due(x, "3 ahead of 6", x.pour(2, 0, 0, 0, -1), false, 3);
        Checks.due(x, "3 ahead of 4", x.pour(0, 9, 2, 0, 1), false, 3);
        Checks.due(x, "11", x.pour(0, 0, 1, 0, 1), false, 11);
        Checks.due(x, "11 for no number, too", x.pour(1, 0, 0, 0, 0), false, 11);
        Checks.due(x, "11 ahead of 6", x.pour(0, 0, 1, 0, -1), false, 11);
        Checks.due(x, "11 ahead of 4", x.pour(0, 9, 1, 0, 1), false, 11);
        Checks.due(x, "6 ahead of 4", x.pour(0, 9, 0, 9, -1), false, 6);
        Checks.due(x, "6", x.pour(0, 0, 0, 0, MIN), false, 6);
    }

    private static void pouringInOrder() {
        Checks.says(8, "So many numbers from place i on of a TRAY come to place j on of another one, or the same, as they were");
        CheatHeap x = new CheatHeap();
        x.tray(0, 3, 3);
        x.tray(1, 3, 60);
        long[] v = {Long.MIN_VALUE, -1, Long.MAX_VALUE};
        for (int i = 0; i < 3; i++) {
            x.write(0, i, v[i]);
        }
        Checks.due(x, "all of it, to the very end", x.pour(0, 0, 1, 57, 3), true, 0);
        Checks.due(x, "one", x.pour(0, 2, 1, 0, 1), true, 0);
        for (int i = 0; i < 3; i++) {
            Checks.due(x, "they come", x.read(1, 57 + i), v[i], 0);
            Checks.due(x, "and stay", x.read(0, i), v[i], 0);
        }
        Checks.due(x, "one came", x.read(1, 0), Long.MAX_VALUE, 0);
        Checks.due(x, "the next place is as it was", x.read(1, 1), 0, 0);
        Checks.due(x, "the one ahead, too", x.read(1, 56), 0, 0);
    }

    private static void pouringBounds() {
        Checks.says(0, "4 a place that the TRAY has not, or too few numbers.");
        CheatHeap x = new CheatHeap();
        x.tray(0, 0, 5);
        x.tray(1, 0, 3);
        int[][] refused = {{0, 0, 6}, {0, 0, 4}, {3, 0, 3}, {0, 1, 3}, {0, 3, 1}, {5, 0, 1}, {-1, 0, 1}, {0, -1, 1}, {-1, 0, 0},
            {0, -1, 0}, {6, 0, 0}, {0, 4, 0}, {MAX, 0, 1}, {0, MAX, 1}, {0, 0, MAX}, {1, 1, MAX}, {MIN, 0, 1}, {0, MIN, 1}, {MAX, MAX, MAX}};
        for (int i = 0; i < 5; i++) {
            x.write(0, i, i + 1);
        }
        for (int[] r : refused) {
            Checks.due(x, r[2] + " from " + r[0] + " to " + r[1], x.pour(0, r[0], 1, r[1], r[2]), false, 4);
        }
        for (int i = 0; i < 3; i++) {
            Checks.due(x, "nothing came", x.read(1, i), 0, 0);
        }
        int[][] taken = {{0, 0, 3}, {2, 0, 3}, {4, 2, 1}, {0, 0, 0}, {5, 0, 0}, {0, 3, 0}, {5, 3, 0}};
        for (int[] r : taken) {
            Checks.due(x, r[2] + " from " + r[0] + " to " + r[1], x.pour(0, r[0], 1, r[1], r[2]), true, 0);
        }
        long[] due = {3, 4, 5};
        for (int i = 0; i < 3; i++) {
            Checks.due(x, "the latest came", x.read(1, i), due[i], 0);
        }
    }

    private static void pouringWithinOne() {
        Checks.says(8, "or the same, as they were");
        int[][] moves = {{0, 2, 4, 1, 2, 1, 2, 3, 4}, {2, 0, 4, 3, 4, 5, 6, 5, 6}, {1, 1, 3, 1, 2, 3, 4, 5, 6}, {0, 1, 5, 1, 1, 2, 3, 4, 5}};
        for (int[] m : moves) {
            CheatHeap x = new CheatHeap();
            x.tray(3, 1, 6);
            for (int i = 0; i < 6; i++) {
                x.write(3, i, i + 1);
            }
            Checks.due(x, "pour", x.pour(3, m[0], 3, m[1], m[2]), true, 0);
            for (int i = 0; i < 6; i++) {
                Checks.due(x, m[2] + " from " + m[0] + " to " + m[1] + " at " + i, x.read(3, i), m[3 + i], 0);
            }
        }
    }
}
