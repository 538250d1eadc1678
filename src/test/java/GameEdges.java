/** The game itself and what is told of it: promises 13 to 23. */
final class GameEdges {
    private static final int NONE = CheatHeap.NONE;
    private static final int MIN = Integer.MIN_VALUE;
    private static final int MAX = Integer.MAX_VALUE;
    private static final String THREE = "kinds 4 each 4;most 3;player a lies 3 doubts 5;player b;player c doubts 16;"
        + "hand a 2 of 0;hand a 1 of 2;hand b 1 of 0;hand b 2 of 1;hand c 3 of 2;hand c 1 of 3;";

    private GameEdges() {
    }

    static void run() {
        counts();
        playersNumbers();
        handsAndGame();
        layings();
        cardsOfLayings();
        copiedHands();
        copiedHandsRefused();
        noSuchKindLaid();
        noneAmongTheCards();
        aboveMost();
        itCannotBe();
        truth();
        left();
        wonWhenLeft();
        doubted();
        wonWhenDoubted();
        whoHasTheTurn();
        leaveRefused();
        doubtRefused();
        nextKindWhenLeft();
        nextKindWhenDoubted();
        noLayingsMore();
        shown();
        bent();
        theGreatestHeap();
        theGreatestLayings();
    }

    /** A LAYING of one card of the first KIND that who has the TURN has. */
    private static void layOne(CheatHeap x) {
        int kind = Integer.numberOfTrailingZeros(x.has(x.many(6)));
        Checks.due(x, "lay one", x.lay(kind, NONE, NONE, NONE) > 0, true, 0);
    }

    private static void counts() {
        Checks.says(13, "KINDS (what 0), EACH (1), PLAYERS (2), the LAW (3: 0 UP, 1 DOWN, 2 SAME), MOST (4); the KIND to be said (5),"
            + " who has the TURN (6; 8: no PLAYERS), cards in the HEAP (7), 1 if a LAYING is OPEN (8), who has WON (9; 8: nobody),"
            + " LAYINGS in the HEAP (10) (5).");
        CheatHeap x = Checks.withTable("kinds 3 each 4;law same;most 2;player a;player b;hand a 3 of 0;hand b 1 of 1;");
        int[][] due = {
            {3, 4, 2, 2, 2, 0, 0, 0, 0, NONE, 0},
            {3, 4, 2, 2, 2, 0, 0, 2, 1, NONE, 1},
            {3, 4, 2, 2, 2, 0, 1, 2, 0, NONE, 1},
            {3, 4, 2, 2, 2, 0, 1, 3, 1, NONE, 2},
            {3, 4, 2, 2, 2, 0, 0, 3, 0, 1, 2}};
        for (int i = 0; i < due.length; i++) {
            for (int what = 0; what < 11; what++) {
                Checks.due(x, "many " + what + " behind " + i, x.many(what), due[i][what], due[i][what] == NONE ? 8 : 0);
            }
            for (int what : new int[] {MIN, -1, 11, MAX}) {
                Checks.due(x, "many " + what, x.many(what), NONE, 5);
            }
            if (i == 0) {
                x.lay(0, 0, NONE, NONE);
            } else if (i == 2) {
                x.lay(1, NONE, NONE, NONE);
            } else {
                x.leave();
            }
        }
        x = Checks.withTable("kinds 2 each 1;");
        Checks.due(x, "no PLAYERS", x.many(6), NONE, 8);
        Checks.due(x, "nobody", x.many(9), NONE, 8);
    }

    private static void playersNumbers() {
        Checks.says(14, "Of a PLAYER, what 0: LIES, 1: DOUBTS, 2: cards, 3: LAYINGS SHOWN, 4: of these not TRUE, 5: its cards in the HEAP (2; 5).");
        CheatHeap x = Checks.withTable(THREE);
        x.lay(0, 2, NONE, NONE);
        int[][] due = {{3, 5, 1, 0, 0, 2}, {0, 0, 3, 0, 0, 0}, {0, 16, 4, 0, 0, 0}};
        for (int p = 0; p < 3; p++) {
            for (int what = 0; what < 6; what++) {
                Checks.due(x, "player " + p + " " + what, x.player(p, what), due[p][what], 0);
            }
            Checks.due(x, "what -1", x.player(p, -1), NONE, 5);
            Checks.due(x, "what 6", x.player(p, 6), NONE, 5);
            Checks.due(x, "what MIN", x.player(p, MIN), NONE, 5);
            Checks.due(x, "what MAX", x.player(p, MAX), NONE, 5);
        }
        for (int p : new int[] {MIN, -1, 3, 6, MAX}) {
            Checks.due(x, "player " + p, x.player(p, 0), NONE, 2);
            Checks.due(x, "2 ahead of 5", x.player(p, 6), NONE, 2);
        }
        x.doubt(1);
        due[0] = new int[] {3, 5, 3, 1, 1, 0};
        x.lay(1, NONE, NONE, NONE);
        x.leave();
        x.lay(2, 2, NONE, NONE);
        x.doubt(1);
        due[1] = new int[] {0, 0, 5, 0, 0, 0};
        due[2] = new int[] {0, 16, 2, 1, 0, 0};
        for (int p = 0; p < 3; p++) {
            for (int what = 0; what < 6; what++) {
                Checks.due(x, "player " + p + " " + what, x.player(p, what), due[p][what], 0);
            }
        }
    }

    private static void handsAndGame() {
        CheatHeap x = Checks.withTable(THREE);
        int[][] hands = {{2, 0, 1, 0}, {1, 2, 0, 0}, {0, 0, 3, 1}};
        int[] all = {3, 2, 4, 1};
        for (int i = 0; i < 3; i++) {
            Checks.says(15, "How many of a KIND a PLAYER has (2).");
            for (int p = 0; p < 3; p++) {
                for (int kind = 0; kind < 4; kind++) {
                    Checks.due(x, "hand " + p + " " + kind, x.hand(p, kind), hands[p][kind], 0);
                }
                Checks.due(x, "no KIND", x.hand(p, -1), NONE, 2);
                Checks.due(x, "no KIND", x.hand(p, 4), NONE, 2);
            }
            Checks.due(x, "no PLAYER", x.hand(-1, 0), NONE, 2);
            Checks.due(x, "no PLAYER", x.hand(3, 0), NONE, 2);
            Checks.due(x, "far away", x.hand(MIN, MIN), NONE, 2);
            Checks.due(x, "far away", x.hand(0, MAX), NONE, 2);
            Checks.says(16, "How many of a KIND are in the game (2).");
            for (int kind = 0; kind < 4; kind++) {
                Checks.due(x, "in the HEAP, too " + kind, x.inGame(kind), all[kind], 0);
            }
            for (int kind : new int[] {MIN, -1, 4, 10, MAX}) {
                Checks.due(x, "no KIND", x.inGame(kind), NONE, 2);
            }
            if (i == 0) {
                x.lay(0, 0, 2, NONE);
                hands[0] = new int[4];
            } else {
                x.doubt(1);
                hands[0] = new int[] {2, 0, 1, 0};
            }
        }
    }

    private static void layings() {
        Checks.says(17, "Of the k-th LAYING in the HEAP (0 the lowest), what 0: who laid it, 1: the KIND said, 2: how many cards, 3: 0 TRUE, 1 MIXED,"
            + " 2 FALSE (5; 8: no such).");
        CheatHeap x = Checks.withTable(THREE.replace("a 2 of 0", "a 3 of 0"));
        Checks.due(x, "an empty HEAP", x.laying(0, 0), NONE, 8);
        Checks.due(x, "5 ahead of 8", x.laying(0, 4), NONE, 5);
        int[][] due = {{0, 0, 3, 1}, {1, 1, 2, 0}, {2, 2, 1, 2}};
        for (int n = 1; n <= 3; n++) {
            x.lay(n == 1 ? 0 : n == 2 ? 1 : 3, n == 1 ? 2 : n == 2 ? 1 : NONE, n == 1 ? 0 : NONE, NONE);
            for (int k = 0; k < n; k++) {
                for (int what = 0; what < 4; what++) {
                    Checks.due(x, "laying " + k + " " + what, x.laying(k, what), due[k][what], 0);
                }
                Checks.due(x, "what -1", x.laying(k, -1), NONE, 5);
                Checks.due(x, "what 4", x.laying(k, 4), NONE, 5);
            }
            for (int k : new int[] {MIN, -1, n, MAX}) {
                Checks.due(x, "no such", x.laying(k, 0), NONE, 8);
                Checks.due(x, "5 ahead of 8", x.laying(k, MIN), NONE, 5);
            }
            x.leave();
        }
    }

    private static void cardsOfLayings() {
        Checks.says(18, "The KIND of the i-th card of the k-th LAYING, by KINDS (8: no such).");
        CheatHeap x = Checks.withTable("kinds 4 each 8;player a;player b;hand a 3 of 3;hand a 1 of 2;hand a 2 of 0;hand b 2 of 1;hand b 2 of 3;");
        Checks.due(x, "an empty HEAP", x.cardOf(0, 0), NONE, 8);
        x.lay(3, 0, 2, 0);
        x.leave();
        x.lay(3, 1, 3, NONE);
        int[][] due = {{0, 0, 2, 3}, {1, 3, 3}};
        for (int k = 0; k < 2; k++) {
            for (int i = 0; i < due[k].length; i++) {
                Checks.due(x, "card " + i + " of " + k, x.cardOf(k, i), due[k][i], 0);
            }
            for (int i : new int[] {MIN, -1, due[k].length, 4, MAX}) {
                Checks.due(x, "no card " + i, x.cardOf(k, i), NONE, 8);
            }
        }
        for (int k : new int[] {MIN, -1, 2, MAX}) {
            Checks.due(x, "no LAYING " + k, x.cardOf(k, 0), NONE, 8);
        }
        x.doubt(0);
        Checks.due(x, "taken", x.cardOf(0, 0), NONE, 8);
    }

    private static void copiedHands() {
        Checks.says(19, "HANDS of a PLAYER come to a TRAY, KIND by KIND: how many KINDS");
        for (int sort = 0; sort < 4; sort++) {
            CheatHeap x = Checks.withTable("kinds 10 each 8;player a;player b;hand b 8 of 0;hand b 1 of 8;hand b 7 of 9;hand a 3 of 2;");
            x.tray(sort, sort, 12);
            for (int i = 0; i < 12; i++) {
                x.write(sort, i, -5);
            }
            Checks.due(x, "ten KINDS", x.copyHand(1, sort), 10, 0);
            long[] due = {8, 0, 0, 0, 0, 0, 0, 0, 1, 7, -5, -5};
            for (int i = 0; i < 12; i++) {
                Checks.due(x, "place " + i, x.read(sort, i), due[i], 0);
            }
            Checks.due(x, "the HAND stays", x.hand(1, 9), 7, 0);
        }
    }

    private static void copiedHandsRefused() {
        Checks.says(19, "(1; 2; 3; 4; asked as 1, 3, 2, 4).");
        CheatHeap x = Checks.withTable(THREE);
        x.tray(0, 3, 3);
        x.tray(1, 3, 4);
        x.tray(2, 3, 0);
        Checks.due(x, "1 ahead of 2", x.copyHand(3, 4), NONE, 1);
        Checks.due(x, "1 ahead of 2", x.copyHand(-1, -1), NONE, 1);
        Checks.due(x, "3 ahead of 2", x.copyHand(3, 3), NONE, 3);
        Checks.due(x, "3", x.copyHand(0, 3), NONE, 3);
        Checks.due(x, "2 ahead of 4", x.copyHand(3, 0), NONE, 2);
        Checks.due(x, "2", x.copyHand(-1, 1), NONE, 2);
        Checks.due(x, "4: one place too few", x.copyHand(0, 0), NONE, 4);
        Checks.due(x, "nothing came", x.read(0, 0), 0, 0);
        Checks.due(x, "4: no place", x.copyHand(0, 2), NONE, 4);
        Checks.due(x, "as many places as KINDS", x.copyHand(0, 1), 4, 0);
        Checks.due(x, "it came", x.read(1, 0), 2, 0);
    }

    private static void noSuchKindLaid() {
        Checks.says(20, "LAY: cards of these KINDS (NONE: no card; no card behind a NONE): how many the HEAP has");
        CheatHeap x = Checks.withTable(THREE);
        for (int bad : new int[] {MIN, -2, 4, 10, MAX}) {
            Checks.due(x, "the first", x.lay(bad, NONE, NONE, NONE), NONE, 2);
            Checks.due(x, "the second", x.lay(0, bad, NONE, NONE), NONE, 2);
            Checks.due(x, "the third", x.lay(0, 0, bad, NONE), NONE, 2);
            Checks.due(x, "the fourth, ahead of 7", x.lay(0, 0, 2, bad), NONE, 2);
            Checks.due(x, "ahead of 5: none", x.lay(NONE, NONE, NONE, bad), NONE, 2);
            Checks.due(x, "ahead of 5: behind a NONE", x.lay(0, NONE, bad, NONE), NONE, 2);
        }
        Checks.due(x, "ahead of 9, the HEAP has one", x.lay(2, NONE, NONE, NONE), 1, 0);
        Checks.due(x, "ahead of 9: one is OPEN", x.lay(4, NONE, NONE, NONE), NONE, 2);
        x.leave();
        Checks.due(x, "the HEAP has three", x.lay(1, 0, NONE, NONE), 3, 0);
        x.leave();
        Checks.due(x, "the HEAP has six", x.lay(2, 3, 2, NONE), 6, 0);
    }

    private static void noneAmongTheCards() {
        Checks.says(20, "(2; 5: none, a card behind a NONE; 7: above MOST; 9: one is OPEN, somebody has WON, no PLAYERS, it has not these)");
        CheatHeap x = Checks.withTable("kinds 2 each 8;most 2;player a;player b;hand a 4 of 0;hand b 1 of 0;");
        for (int set = 0; set < 16; set++) {
            int[] v = new int[4];
            for (int i = 0; i < 4; i++) {
                v[i] = (set >> i & 1) == 0 ? NONE : 0;
            }
            boolean isGood = set == 1 || set == 3;
            boolean isAbove = set == 7 || set == 15;
            long got = x.lay(v[0], v[1], v[2], v[3]);
            Checks.due(x, "set " + set, got, isGood ? Integer.bitCount(set) : NONE, isGood ? 0 : isAbove ? 7 : 5);
            if (isGood) {
                x.doubt(1);
                x = Checks.withTable("kinds 2 each 8;most 2;player a;player b;hand a 4 of 0;hand b 1 of 0;");
            }
        }
        Checks.due(x, "ahead of 9: it has not these", x.lay(NONE, 1, NONE, NONE), NONE, 5);
        x.lay(0, NONE, NONE, NONE);
        Checks.due(x, "ahead of 9: one is OPEN", x.lay(NONE, NONE, NONE, NONE), NONE, 5);
        x = new CheatHeap();
        Checks.due(x, "ahead of 9: no PLAYERS", x.lay(NONE, NONE, NONE, NONE), NONE, 5);
    }

    private static void aboveMost() {
        Checks.says(20, "7: above MOST");
        Checks.says(0, "LAY: who has the TURN lays 1 to MOST of its cards on the HEAP, and says that all are of the KIND that is to be said.");
        for (int most = 1; most <= 4; most++) {
            String table = "kinds 2 each 8;most " + most + ";player a;player b;hand a 8 of 0;";
            for (int n = 1; n <= 4; n++) {
                CheatHeap x = Checks.withTable(table);
                long got = x.lay(0, n > 1 ? 0 : NONE, n > 2 ? 0 : NONE, n > 3 ? 0 : NONE);
                Checks.due(x, n + " by MOST " + most, got, n <= most ? n : NONE, n <= most ? 0 : 7);
                Checks.due(x, "cards", x.player(0, 2), n <= most ? 8 - n : 8, 0);
            }
            if (most < 4) {
                CheatHeap x = Checks.withTable(table);
                Checks.due(x, "ahead of 9: it has not these", x.lay(1, 1, 1, 1), NONE, 7);
                x.lay(0, NONE, NONE, NONE);
                Checks.due(x, "ahead of 9: one is OPEN", x.lay(0, 0, 0, 0), NONE, 7);
                x = Checks.withTable("kinds 2 each 8;most " + most + ";");
                Checks.due(x, "ahead of 9: no PLAYERS", x.lay(0, 0, 0, 0), NONE, 7);
            }
        }
    }

    private static void itCannotBe() {
        Checks.says(20, "9: one is OPEN, somebody has WON, no PLAYERS, it has not these).");
        CheatHeap x = new CheatHeap();
        Checks.due(x, "no PLAYERS", x.lay(0, NONE, NONE, NONE), NONE, 9);
        Checks.due(x, "no PLAYERS", x.lay(0, 1, 1, 0), NONE, 9);
        x = Checks.withTable("kinds 3 each 8;player a;player b;hand a 2 of 0;hand a 1 of 1;hand b 3 of 2;hand b 3 of 0;");
        Checks.due(x, "none of it", x.lay(2, NONE, NONE, NONE), NONE, 9);
        Checks.due(x, "one too many", x.lay(0, 0, 0, NONE), NONE, 9);
        Checks.due(x, "one too many", x.lay(1, 0, 1, NONE), NONE, 9);
        Checks.due(x, "one that it has not", x.lay(0, 0, 1, 2), NONE, 9);
        Checks.due(x, "nothing was laid", x.player(0, 2), 3, 0);
        Checks.due(x, "nothing is OPEN", x.many(8), 0, 0);
        Checks.due(x, "all that it has", x.lay(0, 1, 0, NONE), 3, 0);
        Checks.due(x, "one is OPEN", x.lay(0, NONE, NONE, NONE), NONE, 9);
        Checks.due(x, "one is OPEN: the other has it", x.lay(2, NONE, NONE, NONE), NONE, 9);
        x.leave();
        Checks.due(x, "somebody has WON", x.lay(2, NONE, NONE, NONE), NONE, 9);
    }

    private static void truth() {
        Checks.says(0, "TRUE is a LAYING if all its cards are of the KIND said, FALSE if none is, else MIXED.");
        for (int n = 1; n <= 4; n++) {
            for (int fit = 0; fit <= n; fit++) {
                CheatHeap x = Checks.withTable("kinds 3 each 8;player a;player b;hand a 8 of 0;hand a 8 of 2;hand b 1 of 1;");
                int[] v = new int[4];
                for (int i = 0; i < 4; i++) {
                    v[i] = i >= n ? NONE : i < fit ? 0 : 2;
                }
                x.lay(v[0], v[1], v[2], v[3]);
                int due = fit == n ? 0 : fit == 0 ? 2 : 1;
                Checks.due(x, fit + " of " + n, x.laying(0, 3), due, 0);
                Checks.due(x, "sorts", x.sorts(due), 1, 0);
                Checks.due(x, "who takes it", x.doubt(1), due == 0 ? 1 : 0, 0);
                Checks.due(x, "not TRUE", x.player(0, 4), due == 0 ? 0 : 1, 0);
            }
        }
        CheatHeap x = Checks.withTable("kinds 2 each 8;player a;player b;hand a 2 of 0;hand b 2 of 0;");
        x.lay(0, NONE, NONE, NONE);
        x.leave();
        x.lay(0, NONE, NONE, NONE);
        Checks.due(x, "of the KIND said then", x.laying(0, 3), 0, 0);
        Checks.due(x, "of the KIND said now", x.laying(1, 3), 2, 0);
    }

    private static void left() {
        Checks.says(21, "LEFT: who has the TURN then (8: nothing is OPEN).");
        Checks.says(0, "LEFT: it lies there; who laid it has WON if it has no card; the next PLAYER has the TURN.");
        for (int players = 1; players <= 6; players++) {
            StringBuilder text = new StringBuilder("kinds 2 each 8;law same;");
            for (int p = 0; p < players; p++) {
                text.append("player ").append((char) ('a' + p)).append(";");
                text.append("hand ").append((char) ('a' + p)).append(p == 5 ? " 3 of 1;" : " " + (p == 0 ? 4 : 1) + " of 0;");
                text.append(p == 5 ? "" : "hand " + (char) ('a' + p) + " 1 of 1;");
            }
            CheatHeap x = Checks.withTable(text.toString());
            for (int i = 0; i < players + 1; i++) {
                layOne(x);
                Checks.due(x, "it has the TURN while it is OPEN", x.many(6), i % players, 0);
                Checks.due(x, "the next, behind the last 0", x.leave(), (i + 1) % players, 0);
                Checks.due(x, "the TURN", x.many(6), (i + 1) % players, 0);
                Checks.due(x, "it lies there", x.many(7), i + 1, 0);
                Checks.due(x, "not OPEN", x.many(8), 0, 0);
            }
            Checks.due(x, "nothing was SHOWN", x.player(0, 3), 0, 0);
        }
    }

    private static void wonWhenLeft() {
        Checks.says(0, "who laid it has WON if it has no card; the next PLAYER has the TURN");
        CheatHeap x = Checks.withTable("kinds 2 each 8;player a;player b;player c;hand a 2 of 1;hand b 1 of 1;");
        x.lay(1, NONE, NONE, NONE);
        Checks.due(x, "nobody while it is OPEN", x.many(9), NONE, 8);
        x.leave();
        Checks.due(x, "it has one; c has none, but laid nothing", x.many(9), NONE, 8);
        x.lay(1, NONE, NONE, NONE);
        Checks.due(x, "none left, but OPEN", x.many(9), NONE, 8);
        Checks.due(x, "the next PLAYER", x.leave(), 2, 0);
        Checks.due(x, "b has WON", x.many(9), 1, 0);
        x = Checks.withTable("kinds 2 each 8;player a;player b;hand a 4 of 1;hand b 1 of 1;");
        x.lay(1, 1, 1, 1);
        x.leave();
        Checks.due(x, "by a FALSE one, too", x.many(9), 0, 0);
        x = Checks.withTable("kinds 2 each 8;player a;player b;hand a 1 of 1;");
        x.lay(1, NONE, NONE, NONE);
        x.doubt(1);
        Checks.due(x, "b has none, and lays none", x.lay(1, NONE, NONE, NONE), NONE, 9);
        Checks.due(x, "nobody has WON", x.many(9), NONE, 8);
    }

    private static void doubted() {
        Checks.says(22, "DOUBTED by a PLAYER: who takes the HEAP (2; 5: who laid it; 8).");
        Checks.says(0, "DOUBTED: the cards are SHOWN; if it is TRUE the doubter takes the HEAP, and who laid it has WON if it has no card;"
            + " else who laid it takes the HEAP. Who did not take it has the TURN then.");
        String table = "kinds 3 each 8;player a;player b;player c;hand a 3 of 0;hand a 3 of 1;hand b 3 of 1;hand b 2 of 2;hand c 4 of 2;";
        for (int cards = 0; cards < 3; cards++) {
            for (int doubter = 0; doubter < 3; doubter += 2) {
                CheatHeap x = Checks.withTable(table);
                x.lay(0, 1, NONE, NONE);
                x.leave();
                x.lay(cards == 0 ? 1 : 2, cards == 2 ? 1 : NONE, NONE, NONE);
                int taker = cards == 0 ? doubter : 1;
                int before = x.player(taker, 2);
                int heap = x.many(7);
                Checks.due(x, "who takes it", x.doubt(doubter), taker, 0);
                Checks.due(x, "all of the HEAP", x.player(taker, 2), before + heap, 0);
                Checks.due(x, "the HEAP is empty", x.many(7), 0, 0);
                Checks.due(x, "without LAYINGS", x.many(10), 0, 0);
                Checks.due(x, "not OPEN", x.many(8), 0, 0);
                Checks.due(x, "who did not take it", x.many(6), cards == 0 ? 1 : doubter, 0);
                Checks.due(x, "SHOWN", x.player(1, 3), 1, 0);
                Checks.due(x, "the one below was not", x.player(0, 3), 0, 0);
                Checks.due(x, "no card of a's lies there", x.player(0, 5), 0, 0);
                Checks.due(x, "its KIND 1", x.hand(taker, 1), new int[] {taker == 0 ? 4 : 2, 4, 4}[cards], 0);
            }
        }
    }

    private static void wonWhenDoubted() {
        Checks.says(0, "and who laid it has WON if it has no card; else who laid it takes the HEAP");
        String[] hands = {"hand a 1 of 0;", "hand a 4 of 0;", "hand a 2 of 0;", "hand a 1 of 1;", "hand a 1 of 0;hand a 1 of 1;"};
        int[][] lays = {{0, NONE, NONE, NONE}, {0, 0, 0, 0}, {0, NONE, NONE, NONE}, {1, NONE, NONE, NONE}, {0, 1, NONE, NONE}};
        int[] winner = {0, 0, NONE, NONE, NONE};
        for (int i = 0; i < hands.length; i++) {
            CheatHeap x = Checks.withTable("kinds 2 each 8;player a;player b;" + hands[i] + "hand b 1 of 1;");
            x.lay(lays[i][0], lays[i][1], lays[i][2], lays[i][3]);
            x.doubt(1);
            Checks.due(x, "who has WON " + hands[i], x.many(9), winner[i], winner[i] == NONE ? 8 : 0);
            Checks.due(x, "the TURN", x.many(6), i < 3 ? 0 : 1, 0);
        }
        CheatHeap x = Checks.withTable("kinds 2 each 8;player a;player b;hand a 2 of 0;");
        x.lay(0, NONE, NONE, NONE);
        x.doubt(1);
        Checks.due(x, "not the doubter", x.many(9), NONE, 8);
    }

    private static void whoHasTheTurn() {
        Checks.says(0, "Who did not take it has the TURN then.");
        for (int layer = 0; layer < 4; layer++) {
            for (int doubter = 0; doubter < 4; doubter++) {
                for (int kind = 0; kind < 2; kind++) {
                    CheatHeap x = Checks.withTable("kinds 2 each 8;law same;player a;player b;player c;player d;hand a 2 of 0;hand a 2 of 1;"
                        + "hand b 2 of 0;hand b 2 of 1;hand c 2 of 0;hand c 2 of 1;hand d 2 of 0;hand d 2 of 1;");
                    for (int i = 0; i < layer; i++) {
                        layOne(x);
                        x.leave();
                    }
                    x.lay(kind, NONE, NONE, NONE);
                    if (doubter == layer) {
                        Checks.due(x, "who laid it", x.doubt(doubter), NONE, 5);
                    } else {
                        Checks.due(x, "who takes it", x.doubt(doubter), kind == 0 ? doubter : layer, 0);
                        Checks.due(x, "the TURN", x.many(6), kind == 0 ? layer : doubter, 0);
                    }
                }
            }
        }
    }

    private static void leaveRefused() {
        Checks.says(21, "(8: nothing is OPEN)");
        CheatHeap x = new CheatHeap();
        Checks.due(x, "a new object", x.leave(), NONE, 8);
        x = Checks.withTable(THREE);
        Checks.due(x, "ahead of all", x.leave(), NONE, 8);
        x.lay(0, NONE, NONE, NONE);
        x.leave();
        Checks.due(x, "once is enough", x.leave(), NONE, 8);
        Checks.due(x, "the TURN stays", x.many(6), 1, 0);
        x.lay(0, NONE, NONE, NONE);
        x.doubt(0);
        Checks.due(x, "behind a doubt", x.leave(), NONE, 8);
    }

    private static void doubtRefused() {
        Checks.says(22, "(2; 5: who laid it; 8)");
        Checks.says(0, "It is OPEN then: LEFT, or DOUBTED by another one.");
        CheatHeap x = Checks.withTable(THREE);
        for (int p = 0; p < 3; p++) {
            Checks.due(x, "nothing is OPEN", x.doubt(p), NONE, 8);
        }
        int[] bad = {MIN, -1, 3, 6, MAX};
        for (int p : bad) {
            Checks.due(x, "2 ahead of 8", x.doubt(p), NONE, 2);
        }
        x.lay(0, NONE, NONE, NONE);
        for (int p : bad) {
            Checks.due(x, "no PLAYER", x.doubt(p), NONE, 2);
        }
        Checks.due(x, "who laid it", x.doubt(0), NONE, 5);
        Checks.due(x, "it is OPEN still", x.many(8), 1, 0);
        Checks.due(x, "the last of them", x.doubt(2), 2, 0);
        Checks.due(x, "once is enough", x.doubt(1), NONE, 8);
        x = new CheatHeap();
        Checks.due(x, "without PLAYERS", x.doubt(0), NONE, 2);
    }

    private static void nextKindWhenLeft() {
        Checks.says(0, "Behind both the next KIND is to be said: by UP one more (behind the last one 0), by DOWN one less, by SAME the same if it was LEFT,"
            + " else one more.");
        String[] laws = {"up", "down", "same"};
        for (int kinds = 2; kinds <= 10; kinds++) {
            for (int law = 0; law < 3; law++) {
                CheatHeap x = Checks.withTable("kinds " + kinds + " each 8;law " + laws[law] + ";player a;player b;player c;"
                    + "hand a 8 of 0;hand b 8 of 1;");
                int kind = 0;
                for (int i = 0; i < 2; i++) {
                    layOne(x);
                    Checks.due(x, "while it is OPEN", x.many(5), kind, 0);
                    x.leave();
                    kind = law == 2 ? kind : Math.floorMod(law == 0 ? kind + 1 : kind - 1, kinds);
                    Checks.due(x, laws[law] + " of " + kinds, x.many(5), kind, 0);
                }
            }
        }
        for (int law = 0; law < 3; law++) {
            CheatHeap x = Checks.withTable("kinds 3 each 8;law " + laws[law] + ";player a;hand a 8 of 0;");
            int[][] due = {{1, 2, 0, 1, 2, 0}, {2, 1, 0, 2, 1, 0}, {0, 0, 0, 0, 0, 0}};
            for (int i = 0; i < 6; i++) {
                layOne(x);
                x.leave();
                Checks.due(x, laws[law] + " behind " + i, x.many(5), due[law][i], 0);
            }
        }
    }

    private static void nextKindWhenDoubted() {
        Checks.says(0, "by SAME the same if it was LEFT, else one more");
        String[] laws = {"up", "down", "same"};
        for (int kinds = 2; kinds <= 10; kinds++) {
            for (int law = 0; law < 3; law++) {
                CheatHeap x = Checks.withTable("kinds " + kinds + " each 8;law " + laws[law] + ";player a;player b;hand a 8 of 0;hand b 8 of 1;");
                int kind = 0;
                for (int i = 0; i < 2 * kinds + 1; i++) {
                    layOne(x);
                    x.doubt(1 - x.many(6));
                    kind = Math.floorMod(law == 1 ? kind - 1 : kind + 1, kinds);
                    Checks.due(x, laws[law] + " of " + kinds, x.many(5), kind, 0);
                    Checks.due(x, "nobody has WON", x.many(9), NONE, 8);
                }
            }
        }
    }

    private static void noLayingsMore() {
        Checks.says(0, "When somebody has WON there are no LAYINGS more.");
        CheatHeap x = Checks.withTable("kinds 2 each 8;player a;player b;player c;hand a 1 of 0;hand b 2 of 1;hand c 2 of 0;");
        x.lay(0, NONE, NONE, NONE);
        x.leave();
        Checks.due(x, "a has WON", x.many(9), 0, 0);
        Checks.due(x, "no LAYING", x.lay(1, NONE, NONE, NONE), NONE, 9);
        Checks.due(x, "2 is ahead", x.lay(2, NONE, NONE, NONE), NONE, 2);
        Checks.due(x, "nothing to leave", x.leave(), NONE, 8);
        Checks.due(x, "nothing to doubt", x.doubt(2), NONE, 8);
        Checks.due(x, "who laid the last", x.doubt(0), NONE, 8);
        Checks.due(x, "no best", x.best(0, 0), NONE, 9);
        Checks.due(x, "the TURN stays told", x.many(6), 1, 0);
        Checks.due(x, "bent all the same", x.bend(0, 1, 1), true, 0);
        Checks.round(x, "turn;");
        x.play(0);
        Checks.due(x, "none in a ROUND", x.played(1), 0, 0);
        Checks.due(x, "the HEAP", x.many(10), 1, 0);
    }

    private static void shown() {
        Checks.says(0, "SHOWN: how many LAYINGS of a PLAYER were, how many of these not TRUE.");
        CheatHeap x = Checks.withTable("kinds 2 each 8;player a;player b;hand a 4 of 0;hand a 4 of 1;hand b 4 of 0;hand b 4 of 1;");
        int[] shown = new int[2];
        int[] untrue = new int[2];
        int[] plan = {0, 1, 1, 0, 1, 0, 0, 1};
        for (int lie : plan) {
            int who = x.many(6);
            int kind = x.many(5);
            Checks.due(x, "lay", x.lay(lie == 0 ? kind : 1 - kind, NONE, NONE, NONE), 1, 0);
            x.doubt(1 - who);
            shown[who]++;
            untrue[who] += lie;
            for (int p = 0; p < 2; p++) {
                Checks.due(x, "SHOWN", x.player(p, 3), shown[p], 0);
                Checks.due(x, "not TRUE", x.player(p, 4), untrue[p], 0);
            }
        }
        x.lay(x.many(5), NONE, NONE, NONE);
        x.leave();
        Checks.due(x, "LEFT is not SHOWN", x.player(0, 3) + x.player(1, 3), plan.length, 0);
    }

    private static void bent() {
        Checks.says(23, "LIES, DOUBTS of a PLAYER are set (0 to 16 each) (2; 5).");
        CheatHeap x = Checks.withTable(THREE);
        int[][] refused = {{-1, 0}, {17, 0}, {0, -1}, {0, 17}, {MIN, 0}, {0, MAX}, {17, 17}, {16, 17}, {-1, 16}};
        for (int[] r : refused) {
            Checks.due(x, "bend " + r[0] + " " + r[1], x.bend(0, r[0], r[1]), false, 5);
            Checks.due(x, "LIES", x.player(0, 0), 3, 0);
            Checks.due(x, "DOUBTS", x.player(0, 1), 5, 0);
            Checks.due(x, "2 ahead of 5", x.bend(3, r[0], r[1]), false, 2);
        }
        for (int p : new int[] {MIN, -1, 3, 6, MAX}) {
            Checks.due(x, "no PLAYER " + p, x.bend(p, 1, 1), false, 2);
        }
        for (int n = 0; n <= 16; n++) {
            Checks.due(x, "bend", x.bend(2, n, 16 - n), true, 0);
            Checks.due(x, "LIES", x.player(2, 0), n, 0);
            Checks.due(x, "DOUBTS", x.player(2, 1), 16 - n, 0);
        }
        Checks.due(x, "of that one alone", x.player(1, 0), 0, 0);
        x.lay(0, NONE, NONE, NONE);
        Checks.due(x, "while one is OPEN, too", x.bend(0, 16, 0), true, 0);
    }

    private static CheatHeap withAll(int most) {
        StringBuilder text = new StringBuilder("kinds 10 each 8;most " + most + ";player a;player b;player c;player d;player e;player f;");
        for (int kind = 0; kind < 10; kind++) {
            text.append("hand ").append((char) ('a' + kind % 6)).append(" 8 of ").append(kind).append(";");
        }
        return Checks.withTable(text.toString());
    }

    private static void theGreatestHeap() {
        Checks.says(17, "Of the k-th LAYING in the HEAP (0 the lowest)");
        StringBuilder text = new StringBuilder("kinds 10 each 8;most 1;player a;");
        for (int kind = 0; kind < 10; kind++) {
            text.append("hand a 8 of ").append(kind).append(";");
        }
        CheatHeap x = Checks.withTable(text.toString());
        for (int i = 0; i < 80; i++) {
            Checks.due(x, "cards", x.lay((i + i / 8) % 10, NONE, NONE, NONE), i + 1, 0);
            x.leave();
        }
        Checks.due(x, "80 LAYINGS", x.many(10), 80, 0);
        int[] sorts = new int[3];
        for (int i = 0; i < 80; i++) {
            int kind = (i + i / 8) % 10;
            Checks.due(x, "who", x.laying(i, 0), 0, 0);
            Checks.due(x, "said", x.laying(i, 1), i % 10, 0);
            Checks.due(x, "one card", x.laying(i, 2), 1, 0);
            Checks.due(x, "its KIND", x.cardOf(i, 0), kind, 0);
            Checks.due(x, "TRUE or FALSE", x.laying(i, 3), kind == i % 10 ? 0 : 2, 0);
            sorts[kind == i % 10 ? 0 : 2]++;
        }
        Checks.due(x, "no 81st", x.laying(80, 0), NONE, 8);
        Checks.due(x, "no 81st", x.cardOf(80, 0), NONE, 8);
        for (int what = 0; what < 3; what++) {
            Checks.due(x, "sorts", x.sorts(what), sorts[what], 0);
        }
        for (int kind = 0; kind < 10; kind++) {
            Checks.due(x, "truly", x.lies(kind), 8, 0);
            Checks.due(x, "said", x.said(0, kind), 8, 0);
        }
    }

    private static void theGreatestLayings() {
        Checks.says(18, "The KIND of the i-th card of the k-th LAYING, by KINDS");
        CheatHeap x = withAll(4);
        // a has KINDS 0 and 6, b 1 and 7, c 2 and 8, d 3 and 9, e 4, f 5
        for (int i = 0; i < 11; i++) {
            int p = i % 6;
            Checks.due(x, "four cards", x.lay(p, p, p, p), 4 * i + 4, 0);
            x.leave();
        }
        Checks.due(x, "e has WON", x.many(9), 4, 0);
        for (int k = 0; k < 11; k++) {
            for (int i = 0; i < 4; i++) {
                Checks.due(x, "card " + i + " of " + k, x.cardOf(k, i), k % 6, 0);
            }
            Checks.due(x, "no fifth", x.cardOf(k, 4), NONE, 8);
        }
        Checks.says(25, "(NONE: of all)");
        for (int p = 0; p < 6; p++) {
            Checks.due(x, "unknown to " + p, x.unknown(p, NONE), p < 4 ? 64 : 72, 0);
        }
        Checks.says(22, "who takes the HEAP");
        x = withAll(4);
        x.lay(0, 0, 0, 0);
        x.leave();
        x.lay(1, 1, 7, 7);
        Checks.due(x, "b takes it", x.doubt(5), 1, 0);
        Checks.due(x, "its own and a's", x.player(1, 2), 20, 0);
        Checks.due(x, "all of the KIND", x.hand(1, 7), 8, 0);
    }
}
