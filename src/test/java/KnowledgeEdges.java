/** What one can know, and the odds: promises 24 to 33. */
final class KnowledgeEdges {
    private static final int NONE = CheatHeap.NONE;
    private static final int MIN = Integer.MIN_VALUE;
    private static final int MAX = Integer.MAX_VALUE;
    private static final String THREE = "kinds 3 each 8;player a;player b;player c;hand a 4 of 0;hand a 2 of 1;hand b 3 of 0;hand b 1 of 2;"
        + "hand c 1 of 0;hand c 5 of 2;";

    private KnowledgeEdges() {
    }

    static void run() {
        known();
        unknown();
        knownRefused();
        impossible();
        impossibleByWhatItLaid();
        oddsRefused();
        blind();
        honest();
        belief();
        beliefByHonest();
        worth();
        readyOfSeveral();
        readyRefused();
        inTheHeap();
        said();
    }

    private static void knows(CheatHeap x, String when, int player, int... due) {
        for (int kind = 0; kind < due.length; kind++) {
            Checks.due(x, when + ": known to " + player + " of " + kind, x.known(player, kind), due[kind], 0);
        }
    }

    private static void known() {
        Checks.says(24, "How many of a KIND are KNOWN to a PLAYER (2).");
        Checks.says(0, "KNOWN to a PLAYER are its own cards and those in the HEAP that it laid.");
        CheatHeap x = Checks.withTable(THREE);
        knows(x, "at first", 0, 4, 2, 0);
        x.lay(0, 0, 1, NONE);
        knows(x, "behind its LAYING", 0, 4, 2, 0);
        knows(x, "behind another's", 1, 3, 0, 1);
        x.leave();
        x.lay(0, NONE, NONE, NONE);
        x.leave();
        x.lay(2, 2, NONE, NONE);
        knows(x, "under others", 0, 4, 2, 0);
        knows(x, "one that it laid", 1, 3, 0, 1);
        x.doubt(1);
        knows(x, "the doubter took all", 1, 5, 1, 3);
        knows(x, "what it laid is gone", 0, 2, 1, 0);
        knows(x, "what it laid is gone", 2, 1, 0, 3);
        x.lay(2, NONE, NONE, NONE);
        x.doubt(0);
        knows(x, "it took its own back", 2, 1, 0, 3);
    }

    private static void unknown() {
        Checks.says(25, "UNKNOWN ones of a KIND (NONE: of all) (2).");
        Checks.says(0, "UNKNOWN: how many of a KIND are in the game else, how many of all KINDS.");
        CheatHeap x = Checks.withTable(THREE);
        int[][] due = {{4, 0, 6, 10}, {5, 2, 5, 12}, {7, 2, 1, 10}};
        for (int i = 0; i < 3; i++) {
            for (int p = 0; p < 3; p++) {
                for (int kind = 0; kind < 3; kind++) {
                    Checks.due(x, "unknown to " + p + " of " + kind, x.unknown(p, kind), due[p][kind], 0);
                }
                Checks.due(x, "of all KINDS", x.unknown(p, NONE), due[p][3], 0);
            }
            if (i == 0) {
                x.lay(0, 1, NONE, NONE);
            } else {
                x.doubt(1);
            }
        }
        x = Checks.withTable("kinds 10 each 8;player a;player b;hand a 1 of 9;hand b 8 of 0;hand b 1 of 9;");
        Checks.due(x, "of ten KINDS", x.unknown(0, NONE), 9, 0);
        Checks.due(x, "of ten KINDS", x.unknown(1, NONE), 1, 0);
        x = Checks.withTable("kinds 2 each 8;player a;player b;hand a 8 of 0;hand a 8 of 1;");
        Checks.due(x, "none", x.unknown(0, NONE), 0, 0);
        Checks.due(x, "none", x.unknown(0, 1), 0, 0);
        Checks.due(x, "all", x.unknown(1, NONE), 16, 0);
        Checks.due(x, "all eight", x.unknown(1, 1), 8, 0);
    }

    private static void knownRefused() {
        CheatHeap x = Checks.withTable(THREE);
        int[] players = {MIN, -1, 3, 6, MAX};
        int[] kinds = {MIN, -2, 3, 10, MAX};
        for (int i = 0; i < players.length; i++) {
            Checks.says(24, "(2)");
            Checks.due(x, "known to " + players[i], x.known(players[i], 0), NONE, 2);
            Checks.due(x, "known of " + kinds[i], x.known(0, kinds[i]), NONE, 2);
            Checks.says(25, "(2)");
            Checks.due(x, "unknown to " + players[i], x.unknown(players[i], 0), NONE, 2);
            Checks.due(x, "unknown to " + players[i], x.unknown(players[i], NONE), NONE, 2);
            Checks.due(x, "unknown of " + kinds[i], x.unknown(0, kinds[i]), NONE, 2);
            Checks.says(28, "(2)");
            Checks.due(x, "honest " + players[i], x.honest(players[i]), false, 2);
            Checks.says(32, "The FRACTION is the mean IN THE HEAP, for a PLAYER, of a KIND (2).");
            Checks.due(x, "heap for " + players[i], x.heap(players[i], 0), false, 2);
            Checks.due(x, "heap of " + kinds[i], x.heap(0, kinds[i]), false, 2);
            Checks.says(33, "How often a KIND was said of a LAYING in the HEAP by a PLAYER (2).");
            Checks.due(x, "said by " + players[i], x.said(players[i], 0), NONE, 2);
            Checks.due(x, "said of " + kinds[i], x.said(0, kinds[i]), NONE, 2);
        }
        Checks.says(24, "(2)");
        Checks.due(x, "NONE is no KIND here", x.known(0, NONE), NONE, 2);
        Checks.due(x, "NONE is no KIND here", x.heap(0, NONE), false, 2);
        Checks.due(x, "NONE is no KIND here", x.said(0, NONE), NONE, 2);
    }

    private static void impossible() {
        Checks.says(26, "1 if it is IMPOSSIBLE, else 0 (2; 5: who laid it; 8: nothing is OPEN).");
        Checks.says(0, "Of the OPEN LAYING, for another PLAYER: IMPOSSIBLE: there are fewer of that KIND UNKNOWN than it has cards.");
        for (int others = 0; others <= 4; others++) {
            for (int n = 1; n <= 4; n++) {
                CheatHeap x = Checks.withTable("kinds 2 each 8;player a;player b;player c;hand a 5 of 1;hand c " + others + " of 0;hand b 3 of 0;");
                x.lay(1, n > 1 ? 1 : NONE, n > 2 ? 1 : NONE, n > 3 ? 1 : NONE);
                Checks.due(x, others + " UNKNOWN, laid " + n, x.impossible(1), others < n ? 1 : 0, 0);
                Checks.due(x, "3 UNKNOWN to c, laid " + n, x.impossible(2), n == 4 ? 1 : 0, 0);
            }
        }
        CheatHeap x = Checks.withTable("kinds 2 each 8;player a;player b;hand a 2 of 0;hand b 2 of 0;");
        x.lay(0, 0, NONE, NONE);
        Checks.due(x, "a TRUE one is not", x.impossible(1), 0, 0);
    }

    private static void impossibleByWhatItLaid() {
        Checks.says(0, "there are fewer of that KIND UNKNOWN than it has cards");
        CheatHeap x = Checks.withTable("kinds 2 each 8;law same;player a;player b;hand a 2 of 0;hand a 1 of 1;hand b 1 of 0;hand b 1 of 1;");
        x.lay(0, 0, NONE, NONE);
        Checks.due(x, "2 UNKNOWN to b", x.impossible(1), 0, 0);
        x.leave();
        x.lay(1, NONE, NONE, NONE);
        Checks.due(x, "1 UNKNOWN to a, who laid two", x.impossible(0), 0, 0);
        x.leave();
        x.lay(1, NONE, NONE, NONE);
        Checks.due(x, "those below count, too", x.impossible(1), 0, 0);
        x.doubt(1);
        x.lay(0, NONE, NONE, NONE);
        Checks.due(x, "KIND 1 is said now", x.many(5), 1, 0);
        Checks.due(x, "a has both", x.impossible(0), 1, 0);
        x = Checks.withTable("kinds 2 each 8;law same;player a;player b;hand a 1 of 0;hand a 3 of 1;hand b 2 of 0;hand b 1 of 1;");
        x.lay(1, NONE, NONE, NONE);
        x.leave();
        x.lay(0, 0, NONE, NONE);
        x.leave();
        x.lay(0, 1, NONE, NONE);
        Checks.due(x, "two of three were b's and lie below", x.impossible(1), 1, 0);
    }

    private static void oddsRefused() {
        CheatHeap x = Checks.withTable(THREE);
        for (int p = 0; p < 3; p++) {
            refused(x, p, 8);
        }
        refused(x, 3, 2);
        x.lay(0, NONE, NONE, NONE);
        for (int p : new int[] {MIN, -1, 3, 6, MAX}) {
            refused(x, p, 2);
        }
        refused(x, 0, 5);
        x.leave();
        for (int p = 0; p < 3; p++) {
            refused(x, p, 8);
        }
        x.lay(0, NONE, NONE, NONE);
        refused(x, 1, 5);
        x.doubt(0);
        for (int p = 0; p < 3; p++) {
            refused(x, p, 8);
        }
        x = new CheatHeap();
        refused(x, 0, 2);
    }

    private static void refused(CheatHeap x, int player, int status) {
        x.honest(0);
        long top = x.top();
        Checks.says(26, "(2; 5: who laid it; 8: nothing is OPEN)");
        Checks.due(x, "impossible " + player, x.impossible(player), NONE, status);
        Checks.says(27, "The FRACTION is BLIND ODDS (2; 5; 8).");
        Checks.due(x, "blind " + player, x.blind(player), false, status);
        Checks.says(29, "The FRACTION is BELIEF (2; 5; 8).");
        Checks.due(x, "belief " + player, x.belief(player), false, status);
        Checks.says(30, "The FRACTION is WORTH of a doubt (2; 5; 8).");
        Checks.due(x, "worth " + player, x.worth(player), false, status);
        Checks.due("the FRACTION stays", x.top(), top);
    }

    private static void blind() {
        Checks.says(0, "BLIND ODDS that it is TRUE: in how many ways that many can be taken from the UNKNOWN ones of the KIND, by in how many from all"
            + " UNKNOWN ones.");
        // unknown to b are 3 of KIND 0 of 7 in all
        long[][] due = {{3, 7}, {1, 7}, {1, 35}, {0, 1}};
        for (int n = 1; n <= 4; n++) {
            CheatHeap x = Checks.withTable("kinds 2 each 8;player a;player b;hand a 3 of 0;hand a 4 of 1;hand b 2 of 0;hand b 1 of 1;");
            x.lay(1, n > 1 ? 0 : NONE, n > 2 ? 1 : NONE, n > 3 ? 0 : NONE);
            Checks.fraction(x, "laid " + n, x.blind(1), due[n - 1][0], due[n - 1][1]);
        }
        for (int n = 1; n <= 4; n++) {
            CheatHeap x = Checks.withTable("kinds 2 each 8;player a;player b;hand a 4 of 0;hand b 1 of 1;");
            x.lay(0, n > 1 ? 0 : NONE, n > 2 ? 0 : NONE, n > 3 ? 0 : NONE);
            Checks.fraction(x, "all are of the KIND", x.blind(1), 1, 1);
        }
        StringBuilder all = new StringBuilder("kinds 10 each 8;player a;player b;");
        for (int kind = 0; kind < 10; kind++) {
            all.append("hand a 8 of ").append(kind).append(";");
        }
        CheatHeap x = Checks.withTable(all.toString());
        x.lay(0, 0, 0, 0);
        Checks.fraction(x, "4 of 8 by 4 of 80", x.blind(1), 1, 22594);
        x = Checks.withTable("kinds 2 each 8;player a;player b;hand a 4 of 1;");
        x.lay(1, 1, 1, 1);
        Checks.fraction(x, "none of the KIND in the game", x.blind(1), 0, 1);
    }

    private static void honest() {
        Checks.says(28, "The FRACTION is HONEST (2).");
        Checks.says(0, "HONEST of a PLAYER: how many of its LAYINGS that were SHOWN were TRUE, and 1, by how many were SHOWN, and 2.");
        CheatHeap x = Checks.withTable("kinds 2 each 8;player a;player b;hand a 4 of 0;hand a 4 of 1;hand b 4 of 0;hand b 4 of 1;");
        Checks.fraction(x, "none SHOWN", x.honest(0), 1, 2);
        x.lay(0, NONE, NONE, NONE);
        Checks.fraction(x, "while it is OPEN", x.honest(0), 1, 2);
        x.doubt(1);
        Checks.fraction(x, "one TRUE", x.honest(0), 2, 3);
        x.lay(1, NONE, NONE, NONE);
        x.doubt(1);
        Checks.fraction(x, "two TRUE", x.honest(0), 3, 4);
        x.lay(1, NONE, NONE, NONE);
        x.doubt(1);
        Checks.fraction(x, "one of three not", x.honest(0), 3, 5);
        Checks.fraction(x, "the other's", x.honest(1), 1, 2);
        x.lay(0, NONE, NONE, NONE);
        x.doubt(0);
        Checks.fraction(x, "one, not TRUE", x.honest(1), 1, 3);
        x.lay(0, 1, NONE, NONE);
        x.leave();
        Checks.fraction(x, "LEFT is not SHOWN", x.honest(0), 3, 5);
    }

    private static void belief() {
        Checks.says(29, "The FRACTION is BELIEF");
        Checks.says(0, "BELIEF: BLIND ODDS times HONEST of who laid it, by this and what is left of both to 1, times each other, together"
            + " (0 if both are 0).");
        // HONEST is 1 by 2: BELIEF is as BLIND ODDS
        long[][] due = {{3, 7}, {1, 7}, {1, 35}, {0, 1}};
        for (int n = 1; n <= 4; n++) {
            CheatHeap x = Checks.withTable("kinds 2 each 8;player a;player b;hand a 3 of 0;hand a 4 of 1;hand b 2 of 0;hand b 1 of 1;");
            x.lay(1, n > 1 ? 0 : NONE, n > 2 ? 1 : NONE, n > 3 ? 0 : NONE);
            Checks.fraction(x, "laid " + n, x.belief(1), due[n - 1][0], due[n - 1][1]);
        }
        CheatHeap x = Checks.withTable("kinds 2 each 8;player a;player b;hand a 4 of 0;hand b 1 of 1;");
        x.lay(0, 0, 0, 0);
        Checks.fraction(x, "BLIND ODDS 1", x.belief(1), 1, 1);
        x = Checks.withTable("kinds 2 each 8;player a;player b;hand a 4 of 1;hand b 3 of 0;");
        x.lay(1, NONE, NONE, NONE);
        Checks.fraction(x, "BLIND ODDS 0", x.belief(1), 0, 1);
    }

    private static void beliefByHonest() {
        Checks.says(0, "BLIND ODDS times HONEST of who laid it");
        CheatHeap x = Checks.withTable("kinds 2 each 8;player a;player b;player c;hand a 3 of 0;hand a 2 of 1;hand b 1 of 1;hand c 4 of 0;hand c 1 of 1;");
        x.lay(0, NONE, NONE, NONE);
        x.doubt(1);
        // a was TRUE once, b took its card; KIND 1 is said
        x.lay(1, NONE, NONE, NONE);
        Checks.fraction(x, "HONEST 2 by 3", x.honest(0), 2, 3);
        Checks.fraction(x, "BLIND 3 by 6", x.blind(2), 1, 2);
        Checks.fraction(x, "it believes a more", x.belief(2), 2, 3);
        Checks.fraction(x, "BLIND 3 by 9", x.blind(1), 1, 3);
        Checks.fraction(x, "2 by 2 and 2", x.belief(1), 1, 2);
        x.doubt(2);
        x.lay(1, NONE, NONE, NONE);
        x.doubt(1);
        Checks.fraction(x, "two of three", x.honest(0), 3, 5);
        x.lay(1, NONE, NONE, NONE);
        x.doubt(0);
        x.lay(0, NONE, NONE, NONE);
        Checks.fraction(x, "who laid it, not who is asked", x.honest(0), 3, 5);
        Checks.due(x, "the TURN", x.many(6), 1, 0);
        // b was TRUE once: 2 by 3
        Checks.fraction(x, "by b's HONEST", x.honest(1), 2, 3);
        Checks.fraction(x, "BLIND ODDS for c", x.blind(2), 3, 5);
        Checks.fraction(x, "6 by 6 and 2", x.belief(2), 3, 4);
    }

    private static void worth() {
        Checks.says(30, "The FRACTION is WORTH of a doubt");
        Checks.says(0, "WORTH of a doubt: how many cards the HEAP has, times what BLIND ODDS leave to 1 less BLIND ODDS.");
        long[][] due = {{1, 7}, {10, 7}, {99, 35}, {4, 1}};
        for (int n = 1; n <= 4; n++) {
            CheatHeap x = Checks.withTable("kinds 2 each 8;player a;player b;hand a 3 of 0;hand a 4 of 1;hand b 2 of 0;hand b 1 of 1;");
            x.lay(1, n > 1 ? 0 : NONE, n > 2 ? 1 : NONE, n > 3 ? 0 : NONE);
            Checks.fraction(x, "laid " + n, x.worth(1), due[n - 1][0], due[n - 1][1]);
        }
        for (int n = 1; n <= 4; n++) {
            CheatHeap x = Checks.withTable("kinds 2 each 8;player a;player b;hand a 4 of 0;hand b 1 of 1;");
            x.lay(0, n > 1 ? 0 : NONE, n > 2 ? 0 : NONE, n > 3 ? 0 : NONE);
            Checks.fraction(x, "sure to take them", x.worth(1), -n, 1);
        }
        CheatHeap x = Checks.withTable("kinds 2 each 8;law same;player a;player b;hand a 2 of 0;hand a 2 of 1;hand b 1 of 0;hand b 4 of 1;");
        x.lay(0, NONE, NONE, NONE);
        Checks.fraction(x, "as good as bad", x.worth(1), 0, 1);
        x.leave();
        x.lay(1, 1, 1, NONE);
        Checks.fraction(x, "the whole HEAP, IMPOSSIBLE", x.worth(0), 4, 1);
        x.leave();
        x.lay(0, 1, NONE, NONE);
        // b knows its 1 of KIND 0 and 4 of 1: unknown are 2 of 0 and 2 of 1
        Checks.fraction(x, "6 times 4 by 6", x.worth(1), 4, 1);
    }

    private static void readyOfSeveral() {
        Checks.says(31, "READY");
        Checks.says(0, "READY: who of the others, from the next one on, has the greatest WORTH: of several the first.");
        // who has two of KIND 0 has the greatest WORTH; all have three cards
        for (int set = 0; set < 16; set++) {
            StringBuilder text = new StringBuilder("kinds 2 each 8;law same;player a;player b;player c;player d;");
            for (int p = 0; p < 4; p++) {
                int fit = set >> p & 1;
                text.append("hand ").append((char) ('a' + p)).append(" ").append(1 + fit).append(" of 0;");
                text.append("hand ").append((char) ('a' + p)).append(" ").append(2 - fit).append(" of 1;");
            }
            for (int turn = 0; turn < 4; turn++) {
                int due = NONE;
                for (int i = 3; i > 0; i--) {
                    int p = (turn + i) % 4;
                    due = (set >> p & 1) == 1 || due == NONE || (set >> due & 1) == 0 ? p : due;
                }
                CheatHeap x = Checks.withTable(text.toString());
                for (int i = 0; i < turn; i++) {
                    x.lay(1, NONE, NONE, NONE);
                    x.leave();
                }
                x.lay(0, NONE, NONE, NONE);
                Checks.due(x, "who has two " + set + ", the TURN " + turn, x.ready(), due, 0);
            }
        }
    }

    private static void readyRefused() {
        Checks.says(31, "READY (8: nothing is OPEN, no other PLAYER).");
        CheatHeap x = new CheatHeap();
        Checks.due(x, "no PLAYERS", x.ready(), NONE, 8);
        x = Checks.withTable("kinds 2 each 8;player a;hand a 4 of 0;");
        Checks.due(x, "nothing is OPEN", x.ready(), NONE, 8);
        x.lay(0, NONE, NONE, NONE);
        Checks.due(x, "no other PLAYER", x.ready(), NONE, 8);
        x = Checks.withTable("kinds 2 each 8;player a;player b;hand a 4 of 0;");
        Checks.due(x, "nothing is OPEN", x.ready(), NONE, 8);
        x.lay(0, NONE, NONE, NONE);
        Checks.due(x, "the other one, though it is sure to take it", x.ready(), 1, 0);
        x.leave();
        Checks.due(x, "nothing is OPEN any more", x.ready(), NONE, 8);
    }

    private static void inTheHeap() {
        Checks.says(32, "The FRACTION is the mean IN THE HEAP, for a PLAYER, of a KIND (2).");
        Checks.says(0, "IN THE HEAP, for a PLAYER: the mean of how many of a KIND there are: those that it laid, and of the other cards there as many as"
            + " UNKNOWN ones of the KIND by all UNKNOWN ones.");
        CheatHeap x = Checks.withTable(THREE);
        for (int p = 0; p < 3; p++) {
            Checks.fraction(x, "an empty one", x.heap(p, 0), 0, 1);
        }
        x.lay(0, 0, 1, NONE);
        Checks.fraction(x, "its own", x.heap(0, 0), 2, 1);
        Checks.fraction(x, "its own", x.heap(0, 1), 1, 1);
        Checks.fraction(x, "its own", x.heap(0, 2), 0, 1);
        Checks.fraction(x, "3 times 5 by 12", x.heap(1, 0), 5, 4);
        Checks.fraction(x, "3 times 2 by 12", x.heap(1, 1), 1, 2);
        x.leave();
        x.lay(0, NONE, NONE, NONE);
        Checks.fraction(x, "1, and 3 times 5 by 12", x.heap(1, 0), 9, 4);
        Checks.fraction(x, "4 times 7 by 10", x.heap(2, 0), 14, 5);
        Checks.fraction(x, "2, and 4 by 10", x.heap(0, 0), 12, 5);
        Checks.fraction(x, "6 by 10", x.heap(0, 2), 3, 5);
        x.doubt(0);
        Checks.fraction(x, "taken", x.heap(0, 0), 0, 1);
        x = Checks.withTable("kinds 2 each 8;player a;player b;hand a 2 of 0;hand a 3 of 1;");
        Checks.fraction(x, "nothing UNKNOWN, an empty HEAP", x.heap(0, 0), 0, 1);
        x.lay(0, 0, 1, NONE);
        Checks.fraction(x, "nothing UNKNOWN", x.heap(0, 0), 2, 1);
        Checks.fraction(x, "nothing UNKNOWN", x.heap(0, 1), 1, 1);
        Checks.fraction(x, "all UNKNOWN", x.heap(1, 0), 6, 5);
    }

    private static void said() {
        Checks.says(33, "How often a KIND was said of a LAYING in the HEAP by a PLAYER (2).");
        CheatHeap x = Checks.withTable("kinds 2 each 8;player a;player b;player c;hand a 5 of 0;hand b 8 of 1;hand c 3 of 0;");
        int[][] due = new int[3][2];
        for (int i = 0; i < 6; i++) {
            x.lay(i % 3 == 1 ? 1 : 0, i == 0 ? 0 : NONE, NONE, NONE);
            due[i % 3][i % 2]++;
            for (int p = 0; p < 3; p++) {
                Checks.due(x, "said, not what it is", x.said(p, 0), due[p][0], 0);
                Checks.due(x, "said, not what it is", x.said(p, 1), due[p][1], 0);
            }
            x.leave();
        }
        x.lay(0, NONE, NONE, NONE);
        Checks.due(x, "twice", x.said(0, 0), 2, 0);
        x.doubt(2);
        for (int p = 0; p < 3; p++) {
            Checks.due(x, "none in an empty HEAP", x.said(p, 0), 0, 0);
            Checks.due(x, "none in an empty HEAP", x.said(p, 1), 0, 0);
        }
    }
}
