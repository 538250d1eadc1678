/** What falls to whom: promises 34 to 40. */
final class ForecastEdges {
    private static final int NONE = CheatHeap.NONE;
    private static final int MIN = Integer.MIN_VALUE;
    private static final int MAX = Integer.MAX_VALUE;
    private static final String[] LAWS = {"up", "down", "same"};

    private ForecastEdges() {
    }

    static void run() {
        waits();
        falls();
        fallsAsItGoes();
        fallsByBounds();
        refused();
        honestly();
        honestlyByMost();
        rid();
        ridInSixty();
        lastKind();
        mustLie();
        mustLieInSixty();
        soonest();
        soonestOfSeveral();
        ifNobodyHasWon();
    }

    private static String table(int kinds, int law, int players, String rest) {
        StringBuilder text = new StringBuilder("kinds " + kinds + " each 8;law " + LAWS[law] + ";");
        for (int p = 0; p < players; p++) {
            text.append("player ").append((char) ('a' + p)).append(";");
        }
        return text + rest;
    }

    private static String each(String name, int n, int kinds) {
        StringBuilder text = new StringBuilder();
        for (int kind = 0; kind < kinds; kind++) {
            text.append("hand ").append(name).append(" ").append(n).append(" of ").append(kind).append(";");
        }
        return text.toString();
    }

    private static void waits() {
        Checks.says(34, "How many TURNS there are ahead of its next one (0: it has it, and nothing is OPEN) (2).");
        for (int players = 1; players <= 6; players++) {
            StringBuilder hands = new StringBuilder();
            for (int p = 0; p < players; p++) {
                hands.append(each("" + (char) ('a' + p), 1, 3));
            }
            CheatHeap x = Checks.withTable(table(3, 0, players, hands.toString()));
            for (int turn = 0; turn < 2 * players; turn++) {
                for (int p = 0; p < players; p++) {
                    Checks.due(x, "waits " + p, x.waits(p), Math.floorMod(p - turn, players), 0);
                }
                x.lay(turn < players ? 0 : 1, NONE, NONE, NONE);
                for (int p = 0; p < players; p++) {
                    int ahead = Math.floorMod(p - turn, players);
                    Checks.due(x, "waits while one is OPEN " + p, x.waits(p), ahead == 0 ? players : ahead, 0);
                }
                x.leave();
            }
            for (int p : new int[] {MIN, -1, players, 6, MAX}) {
                Checks.due(x, "no PLAYER", x.waits(p), NONE, 2);
            }
        }
        CheatHeap x = new CheatHeap();
        Checks.due(x, "no PLAYERS", x.waits(0), NONE, 2);
    }

    private static void falls() {
        Checks.says(35, "FALLS (r 0 to 60) (2; 5).");
        Checks.says(0, "FALLS: which KIND a PLAYER will have to say in its r-th TURN from now on (0: the first that it has, also the one now, if nothing is"
            + " OPEN), if all is LEFT, everybody lays, and nobody has WON.");
        for (int law = 0; law < 3; law++) {
            for (int kinds = 2; kinds <= 10; kinds += 4) {
                for (int players = 1; players <= 6; players++) {
                    CheatHeap x = Checks.withTable(table(kinds, law, players, "hand a 2 of 0;"));
                    for (int p = 0; p < players; p++) {
                        for (int r : new int[] {0, 1, 2, 59, 60}) {
                            int turns = r * players + p;
                            int due = law == 2 ? 0 : Math.floorMod(law == 0 ? turns : -turns, kinds);
                            Checks.due(x, LAWS[law] + " of " + kinds + ": " + p + " " + r, x.falls(p, r), due, 0);
                        }
                    }
                    x.lay(0, NONE, NONE, NONE);
                    for (int p = 0; p < players; p++) {
                        for (int r : new int[] {0, 1, 60}) {
                            int turns = r * players + (p == 0 ? players : p);
                            int due = law == 2 ? 0 : Math.floorMod(law == 0 ? turns : -turns, kinds);
                            Checks.due(x, "while one is OPEN " + LAWS[law] + " " + p + " " + r, x.falls(p, r), due, 0);
                        }
                    }
                }
            }
        }
    }

    private static void fallsAsItGoes() {
        Checks.says(0, "if all is LEFT, everybody lays, and nobody has WON");
        for (int law = 0; law < 3; law++) {
            CheatHeap x = Checks.withTable(table(5, law, 3, each("a", 2, 5) + each("b", 2, 5) + each("c", 2, 5)));
            int[][] told = new int[3][3];
            for (int p = 0; p < 3; p++) {
                for (int r = 0; r < 3; r++) {
                    told[p][r] = x.falls(p, r);
                }
            }
            for (int i = 0; i < 9; i++) {
                Checks.due(x, LAWS[law] + " behind " + i, x.many(5), told[i % 3][i / 3], 0);
                Checks.due(x, "the KIND now", x.falls(i % 3, 0), told[i % 3][i / 3], 0);
                x.lay(i / 2, NONE, NONE, NONE);
                x.leave();
            }
        }
    }

    private static void fallsByBounds() {
        Checks.says(35, "(r 0 to 60) (2; 5)");
        CheatHeap x = Checks.withTable(table(3, 0, 2, "hand a 2 of 0;"));
        for (int r : new int[] {MIN, -1, 61, MAX}) {
            Checks.due(x, "falls " + r, x.falls(0, r), NONE, 5);
            Checks.due(x, "2 ahead of 5", x.falls(2, r), NONE, 2);
        }
        Checks.says(36, "HONESTLY in r TURNS (0 to 60) (2; 5).");
        for (int r : new int[] {MIN, -1, 61, MAX}) {
            Checks.due(x, "honestly " + r, x.honestly(0, r), NONE, 5);
            Checks.due(x, "2 ahead of 5", x.honestly(2, r), NONE, 2);
        }
        Checks.due(x, "60", x.honestly(0, 60), 2, 0);
        Checks.due(x, "0", x.honestly(0, 0), 0, 0);
    }

    private static void refused() {
        CheatHeap x = Checks.withTable(table(3, 0, 2, "hand a 2 of 0;"));
        for (int p : new int[] {MIN, -1, 2, 6, MAX}) {
            Checks.says(35, "(2; 5)");
            Checks.due(x, "falls " + p, x.falls(p, 0), NONE, 2);
            Checks.says(36, "(2; 5)");
            Checks.due(x, "honestly " + p, x.honestly(p, 0), NONE, 2);
            Checks.says(37, "RID (2; 8: not in 60).");
            Checks.due(x, "rid " + p, x.rid(p), NONE, 2);
            Checks.says(38, "LAST KIND (2; 8: not RID in 60, no card).");
            Checks.due(x, "lastKind " + p, x.lastKind(p), NONE, 2);
            Checks.says(39, "MUST LIE (2; 8: not ahead of RID, not in 60).");
            Checks.due(x, "mustLie " + p, x.mustLie(p), NONE, 2);
        }
        x = new CheatHeap();
        Checks.due(x, "no PLAYERS", x.falls(0, 0), NONE, 2);
        Checks.due(x, "no PLAYERS", x.rid(0), NONE, 2);
    }

    private static void honestly() {
        Checks.says(36, "HONESTLY in r TURNS (0 to 60)");
        Checks.says(0, "If it lays then as many of that KIND as it has, MOST at most, none else: HONESTLY in r TURNS: how many cards;");
        // a says 0, 2, 1, 0 .., b says 1, 0, 2, 1 ..
        CheatHeap x = Checks.withTable(table(3, 0, 2, "hand a 5 of 0;hand a 1 of 1;hand b 2 of 0;hand b 7 of 2;"));
        int[][] due = {{0, 4, 4, 5, 6, 6, 6}, {0, 0, 2, 6, 6, 6, 9}};
        for (int p = 0; p < 2; p++) {
            for (int r = 0; r < 7; r++) {
                Checks.due(x, "honestly " + p + " " + r, x.honestly(p, r), due[p][r], 0);
            }
            Checks.due(x, "all", x.honestly(p, 60), due[p][6], 0);
        }
        x.lay(0, 1, 0, NONE);
        int[] behind = {0, 0, 0, 3, 3};
        for (int r = 0; r < 5; r++) {
            Checks.due(x, "while its own is OPEN " + r, x.honestly(0, r), behind[r], 0);
        }
        x.leave();
        Checks.due(x, "from now on: 1, 0, 2", x.honestly(1, 2), 2, 0);
        Checks.due(x, "from now on: 2, 1, 0", x.honestly(0, 3), 3, 0);
        x = Checks.withTable(table(2, 2, 2, "hand a 3 of 1;"));
        Checks.due(x, "never by SAME", x.honestly(0, 60), 0, 0);
        Checks.due(x, "no card", x.honestly(1, 60), 0, 0);
    }

    private static void honestlyByMost() {
        Checks.says(0, "as many of that KIND as it has, MOST at most");
        for (int most = 1; most <= 4; most++) {
            for (int n = 0; n <= 8; n++) {
                CheatHeap x = Checks.withTable(table(2, 2, 2, "most " + most + ";hand a " + n + " of 0;"));
                for (int r = 0; r < 10; r++) {
                    Checks.due(x, n + " by " + most, x.honestly(0, r), Math.min(n, r * most), 0);
                }
                Checks.due(x, "rid", x.rid(0), (n + most - 1) / most, 0);
            }
        }
    }

    private static void rid() {
        Checks.says(37, "RID (2; 8: not in 60).");
        Checks.says(0, "RID: the fewest TURNS (1 to 60) behind which it has none (0 if it has none now);");
        CheatHeap x = Checks.withTable(table(3, 0, 2, "hand a 1 of 0;"));
        Checks.due(x, "in one", x.rid(0), 1, 0);
        Checks.due(x, "none now", x.rid(1), 0, 0);
        x.lay(0, NONE, NONE, NONE);
        Checks.due(x, "none now, while it is OPEN", x.rid(0), 0, 0);
        x.leave();
        Checks.due(x, "it has WON", x.rid(0), 0, 0);
        x = Checks.withTable(table(3, 0, 2, "hand a 1 of 0;hand a 1 of 2;hand b 1 of 2;"));
        Checks.due(x, "0, 2", x.rid(0), 2, 0);
        Checks.due(x, "1, 0, 2", x.rid(1), 3, 0);
        x.lay(2, NONE, NONE, NONE);
        Checks.due(x, "its TURN is used: 2, 1, 0", x.rid(0), 3, 0);
        // KIND 1 is all that a says of an even number
        x = Checks.withTable(table(4, 0, 2, "hand a 1 of 1;hand b 1 of 1;"));
        Checks.due(x, "never", x.rid(0), NONE, 8);
        Checks.due(x, "at once", x.rid(1), 1, 0);
    }

    private static void ridInSixty() {
        Checks.says(37, "(2; 8: not in 60)");
        CheatHeap x = Checks.withTable(table(10, 0, 1, "most 1;hand a 6 of 9;"));
        Checks.due(x, "the sixtieth", x.rid(0), 60, 0);
        Checks.due(x, "all six", x.honestly(0, 60), 6, 0);
        Checks.due(x, "one less", x.honestly(0, 59), 5, 0);
        Checks.says(38, "(2; 8: not RID in 60, no card)");
        Checks.due(x, "the sixtieth", x.lastKind(0), 9, 0);
        Checks.says(40, "(8: nobody is in 60)");
        Checks.due(x, "the sixtieth", x.soonest(), 0, 0);
        x = Checks.withTable(table(10, 0, 1, "most 1;hand a 7 of 0;"));
        Checks.due(x, "the 61st is too late", x.rid(0), NONE, 8);
        Checks.due(x, "the 61st is too late", x.lastKind(0), NONE, 8);
        Checks.due(x, "the 61st is too late", x.soonest(), NONE, 8);
        Checks.due(x, "six of seven", x.honestly(0, 60), 6, 0);
        x.lay(0, NONE, NONE, NONE);
        Checks.due(x, "ten TURNS behind the OPEN one", x.rid(0), 60, 0);
    }

    private static void lastKind() {
        Checks.says(38, "LAST KIND (2; 8: not RID in 60, no card).");
        Checks.says(0, "LAST KIND: what it lays last so;");
        CheatHeap x = Checks.withTable(table(3, 0, 2, "hand a 1 of 0;hand a 1 of 1;hand a 1 of 2;hand b 1 of 1;"));
        Checks.due(x, "0, 2, 1", x.lastKind(0), 1, 0);
        Checks.due(x, "1", x.lastKind(1), 1, 0);
        x.lay(1, NONE, NONE, NONE);
        Checks.due(x, "2, 1, 0", x.lastKind(0), 0, 0);
        x.leave();
        x.lay(1, NONE, NONE, NONE);
        Checks.due(x, "no card", x.lastKind(1), NONE, 8);
        x = Checks.withTable(table(3, 0, 2, "most 1;hand a 2 of 0;hand a 1 of 1;"));
        Checks.due(x, "0, 2, 1, 0", x.lastKind(0), 0, 0);
        x = Checks.withTable(table(2, 2, 2, "hand a 7 of 0;hand b 1 of 0;hand b 1 of 1;"));
        Checks.due(x, "KIND 0 alone", x.lastKind(0), 0, 0);
        Checks.due(x, "never RID", x.lastKind(1), NONE, 8);
    }

    private static void mustLie() {
        Checks.says(39, "MUST LIE (2; 8: not ahead of RID, not in 60).");
        Checks.says(0, "MUST LIE: the first TURN (from 0 on) at which it has none of the KIND, ahead of which it is not RID.");
        // a says 0, 2, 1, 0 .., b says 1, 0, 2, 1 ..
        CheatHeap x = Checks.withTable(table(3, 0, 2, "hand a 1 of 0;hand a 1 of 2;hand b 1 of 0;"));
        Checks.due(x, "RID behind the second", x.mustLie(0), NONE, 8);
        Checks.due(x, "the first", x.mustLie(1), 0, 0);
        x.lay(2, NONE, NONE, NONE);
        Checks.due(x, "2, of which it has none", x.mustLie(0), 0, 0);
        x = Checks.withTable(table(3, 0, 2, "hand a 1 of 0;hand a 1 of 1;hand b 1 of 1;"));
        Checks.due(x, "the second", x.mustLie(0), 1, 0);
        Checks.due(x, "RID at once", x.mustLie(1), NONE, 8);
        x = Checks.withTable(table(3, 0, 2, "most 1;hand a 2 of 0;hand a 1 of 1;hand a 1 of 2;"));
        Checks.due(x, "0, 2, 1, 0", x.mustLie(0), NONE, 8);
        x = Checks.withTable(table(3, 0, 2, "most 1;hand a 2 of 0;hand a 1 of 1;hand a 2 of 2;"));
        Checks.due(x, "0, 2, 1, 0, 2", x.mustLie(0), NONE, 8);
        x = Checks.withTable(table(3, 0, 2, "most 1;hand a 3 of 0;hand a 1 of 1;hand a 2 of 2;"));
        Checks.due(x, "0, 2, 1, 0, 2, no 1", x.mustLie(0), 5, 0);
        Checks.due(x, "no card", x.mustLie(1), NONE, 8);
        x = Checks.withTable(table(2, 2, 2, "hand a 7 of 0;hand a 1 of 1;hand b 1 of 1;"));
        Checks.due(x, "never RID, behind 7 of KIND 0", x.mustLie(0), 2, 0);
        Checks.due(x, "never RID", x.mustLie(1), 0, 0);
    }

    private static void mustLieInSixty() {
        Checks.says(39, "(2; 8: not ahead of RID, not in 60)");
        String six = "most 1;" + each("a", 6, 10);
        CheatHeap x = Checks.withTable(table(10, 0, 1, six));
        Checks.due(x, "RID behind the sixtieth", x.rid(0), 60, 0);
        Checks.due(x, "not ahead of that", x.mustLie(0), NONE, 8);
        x = Checks.withTable(table(10, 0, 1, six.replace("6 of 0", "7 of 0").replace("6 of 9", "5 of 9")));
        Checks.due(x, "the last of sixty", x.mustLie(0), 59, 0);
        x = Checks.withTable(table(10, 0, 1, six.replace("6 of 0", "7 of 0")));
        Checks.due(x, "one more card", x.mustLie(0), NONE, 8);
        Checks.due(x, "not RID", x.rid(0), NONE, 8);
        x = Checks.withTable(table(10, 0, 1, "most 1;" + each("a", 8, 10)));
        Checks.due(x, "not in sixty", x.mustLie(0), NONE, 8);
        Checks.due(x, "honestly", x.honestly(0, 60), 60, 0);
    }

    private static void soonest() {
        Checks.says(40, "The PLAYER that is RID the soonest, of several the first (8: nobody is in 60).");
        CheatHeap x = new CheatHeap();
        Checks.due(x, "no PLAYERS", x.soonest(), NONE, 8);
        x = Checks.withTable(table(3, 0, 2, "hand a 1 of 0;hand a 1 of 2;hand b 1 of 1;"));
        Checks.due(x, "b in one", x.soonest(), 1, 0);
        x = Checks.withTable(table(3, 0, 3, "hand a 1 of 0;hand b 1 of 1;"));
        Checks.due(x, "c has no card", x.soonest(), 2, 0);
        x = Checks.withTable(table(2, 2, 3, "hand a 1 of 1;hand b 1 of 1;hand c 7 of 0;"));
        Checks.due(x, "c alone is at all", x.soonest(), 2, 0);
        x = Checks.withTable(table(2, 2, 3, "hand a 1 of 1;hand b 1 of 1;hand c 2 of 1;"));
        Checks.due(x, "nobody is", x.soonest(), NONE, 8);
    }

    private static void soonestOfSeveral() {
        Checks.says(40, "of several the first");
        CheatHeap x = Checks.withTable(table(3, 2, 3, "hand a 2 of 0;hand b 2 of 0;hand c 2 of 0;"));
        Checks.due(x, "a ahead of b and c", x.soonest(), 0, 0);
        x = Checks.withTable(table(3, 2, 3, "most 1;hand a 3 of 0;hand b 2 of 0;hand c 2 of 0;"));
        Checks.due(x, "b ahead of c", x.soonest(), 1, 0);
        x.lay(0, NONE, NONE, NONE);
        x.leave();
        Checks.due(x, "a ahead of b, though b has the TURN", x.soonest(), 0, 0);
        x = Checks.withTable(table(3, 0, 2, ""));
        Checks.due(x, "nobody has a card", x.soonest(), 0, 0);
    }

    private static void ifNobodyHasWon() {
        Checks.says(0, "everybody lays, and nobody has WON");
        CheatHeap x = Checks.withTable(table(5, 0, 3, "hand a 1 of 0;hand b 1 of 3;hand c 2 of 2;"));
        Checks.due(x, "though a has no card then", x.falls(0, 1), 3, 0);
        x.lay(0, NONE, NONE, NONE);
        x.leave();
        Checks.due(x, "a has WON", x.many(9), 0, 0);
        Checks.due(x, "a's next", x.falls(0, 0), 3, 0);
        Checks.due(x, "b's", x.falls(1, 0), 1, 0);
        Checks.due(x, "waits", x.waits(0), 2, 0);
        Checks.due(x, "1, 4, 2, 0, 3", x.rid(1), 5, 0);
        Checks.due(x, "2", x.rid(2), 1, 0);
        Checks.due(x, "the sayer", x.sayer(3), 0, 0);
        Checks.due(x, "a has none now", x.soonest(), 0, 0);
    }
}
