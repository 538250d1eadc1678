import java.util.Arrays;

/** ROUNDS as they are played, and MARKS: promises 50 to 55. */
final class RoundEdges {
    private static final int NONE = CheatHeap.NONE;
    private static final int MIN = Integer.MIN_VALUE;
    private static final int MAX = Integer.MAX_VALUE;
    private static final String TWO = "kinds 2 each 8;player a;player b;hand a 3 of 0;hand a 1 of 1;hand b 2 of 0;hand b 2 of 1;";
    /** The first eight draws by each seed, told by another program. */
    private static final int[][] DRAWS = {{0, 2, 13, 6, 12, 4, 13, 13, 1}, {1, 8, 10, 5, 14, 4, 12, 5, 5}, {3, 3, 4, 2, 2, 3, 11, 7, 13},
        {19, 13, 6, 12, 4, 13, 13, 1, 15}, {20, 2, 3, 11, 7, 13, 12, 9, 3}, {23, 3, 11, 7, 13, 12, 9, 3, 15},
        {9998, 1, 5, 3, 10, 15, 1, 5, 10}, {9999, 6, 2, 2, 12, 15, 0, 14, 14}};

    private RoundEdges() {
    }

    static void run() {
        playRefused();
        layOfTheKind();
        lieByDraw();
        lieWithoutTheKind();
        noDraw();
        theOtherKind();
        doubters();
        doubtersDraws();
        nobodyDoubts();
        draws();
        anOpenOneIsLeft();
        missed();
        setLiesAndDoubts();
        whenCardsAndHeap();
        whenShownAndWon();
        loops();
        stops();
        threeHundred();
        played();
        winsRefused();
        winsAndLeft();
        marks();
        marksKeep();
        marksKeepAGame();
        marksKeepTheHeap();
        trialsKeepTheHeap();
    }

    private static CheatHeap with(String table, String round) {
        CheatHeap x = Checks.withTable(table);
        Checks.round(x, round);
        Checks.due("the ROUND is taken: " + round, x.status(), 0);
        return x;
    }

    private static CheatHeap playedBy(int seed, String table, String round) {
        CheatHeap x = with(table, round);
        Checks.due("played: " + round, x.play(seed) >= 0, true);
        return x;
    }

    private static void counts(CheatHeap x, String what, int... due) {
        for (int i = 0; i < due.length; i++) {
            Checks.due(x, what + ": played " + i, x.played(i), due[i], 0);
        }
    }

    private static void playRefused() {
        Checks.says(50, "PLAYED: how many STEPS were done (5; 8: no ROUND).");
        Checks.says(0, "PLAYED by a seed (0 to 9,999): all is as it becomes by it, and stays so.");
        CheatHeap x = Checks.withTable(TWO);
        int[] bad = {MIN, -1, 10000, MAX};
        for (int seed : bad) {
            Checks.due(x, "5 ahead of 8", x.play(seed), NONE, 5);
        }
        Checks.due(x, "no ROUND", x.play(0), NONE, 8);
        Checks.due(x, "none was played", x.played(0), NONE, 8);
        Checks.round(x, "turn;");
        for (int seed : bad) {
            Checks.due(x, "seed " + seed, x.play(seed), NONE, 5);
        }
        Checks.due(x, "nothing was laid", x.many(7), 0, 0);
        Checks.due(x, "none was played", x.played(0), NONE, 8);
        Checks.due(x, "0", x.play(0), 1, 0);
        int heap = x.many(10) + x.player(0, 3);
        Checks.due("it stays so", heap, 1);
        Checks.due(x, "9999", x.play(9999), 1, 0);
    }

    private static void layOfTheKind() {
        Checks.says(0, "Who has the TURN lays as many of the KIND as it has, MOST at most;");
        for (int most = 1; most <= 4; most++) {
            for (int n = 1; n <= 7; n++) {
                for (int others = 0; others <= 2; others++) {
                    CheatHeap x = playedBy(0, "kinds 2 each 8;most " + most + ";player a;player b;hand a " + n + " of 0;hand a " + others + " of 1;"
                        + "hand b 1 of 0;", "turn;");
                    // b doubts by IMPOSSIBLE alone, and that it never is
                    Checks.due(x, n + " by MOST " + most, x.laying(0, 2), Math.min(n, most), 0);
                    Checks.due(x, "of the KIND", x.lies(0), Math.min(n, most), 0);
                    Checks.due(x, "the others stay", x.hand(0, 1), others, 0);
                }
            }
        }
    }

    private static void lieByDraw() {
        Checks.says(0, "if these are fewer than MOST, and it has other cards: one of these more, by a draw by 16 that is less than its LIES");
        for (int[] seed : DRAWS) {
            for (int lies = 0; lies <= 16; lies++) {
                CheatHeap x = playedBy(seed[0], "kinds 3 each 8;player a lies " + lies + ";player b;hand a 1 of 0;hand a 3 of 1;hand b 1 of 0;hand a 1 of 2;"
                    + "player c;hand c 1 of 0;", "turn;");
                boolean isLie = seed[1] < lies;
                Checks.due(x, "draw " + seed[1] + " by LIES " + lies, x.laying(0, 2), isLie ? 2 : 1, 0);
                Checks.due(x, "one other alone", x.hand(0, 1), isLie ? 2 : 3, 0);
                Checks.due(x, "MIXED", x.laying(0, 3), isLie ? 1 : 0, 0);
            }
        }
    }

    private static void lieWithoutTheKind() {
        Checks.says(0, "(always, without a draw, if it has none of the KIND)");
        for (int lies = 0; lies <= 16; lies += 16) {
            for (int most = 1; most <= 4; most++) {
                CheatHeap x = playedBy(0, "kinds 3 each 8;most " + most + ";player a lies " + lies + ";player b;player c;hand a 3 of 1;hand b 1 of 0;hand c 1 of 0;", "turn;");
                Checks.due(x, "one other", x.laying(0, 2), 1, 0);
                Checks.due(x, "FALSE", x.laying(0, 3), 2, 0);
            }
        }
    }

    // by seed 0 the draws are 2 and 13: if there was none ahead b doubts by 2
    private static void noDraw() {
        String[] hands = {"hand a 1 of 1;", "hand a 2 of 0;", "hand a 5 of 0;hand a 1 of 1;", "hand a 4 of 0;hand a 1 of 1;", "hand a 1 of 0;hand a 1 of 1;"};
        String[] says = {"without a draw, if it has none of the KIND", "and it has other cards", "if these are fewer than MOST",
            "if these are fewer than MOST", "by a draw by 16 that is less than its LIES"};
        for (int i = 0; i < hands.length; i++) {
            Checks.says(0, says[i]);
            CheatHeap x = playedBy(0, "kinds 2 each 8;player a;player b doubts 3;player c;hand b 1 of 0;hand c 1 of 0;" + hands[i], "turn;");
            Checks.due(x, "doubted " + hands[i], x.played(2), i < 4 ? 1 : 0, 0);
            x = playedBy(0, "kinds 2 each 8;player a;player b doubts 2;player c;hand b 1 of 0;hand c 1 of 0;" + hands[i], "turn;");
            Checks.due(x, "not doubted " + hands[i], x.played(2), 0, 0);
        }
    }

    private static void theOtherKind() {
        Checks.says(0, "of the other KIND of which it has the most, of several the first.");
        int[][] hands = {{0, 1, 2, 3}, {0, 3, 2, 1}, {0, 2, 2, 2}, {0, 1, 2, 2}, {0, 2, 1, 2}, {3, 0, 1, 0}, {3, 0, 1, 1}, {3, 1, 2, 1}, {3, 0, 0, 1}};
        int[] due = {3, 1, 1, 2, 1, 2, 2, 2, 3};
        for (int i = 0; i < hands.length; i++) {
            StringBuilder text = new StringBuilder("kinds 4 each 8;player a lies 16;player b;player c;hand b 2 of 0;hand c 2 of 0;");
            for (int kind = 0; kind < 4; kind++) {
                text.append("hand a ").append(hands[i][kind]).append(" of ").append(kind).append(";");
            }
            CheatHeap x = playedBy(0, text.toString(), "turn;");
            for (int kind = 0; kind < 4; kind++) {
                int laid = kind == 0 ? hands[i][0] : kind == due[i] ? 1 : 0;
                Checks.due(x, "laid of " + kind + " in " + i, x.lies(kind), laid, 0);
            }
        }
        CheatHeap x = playedBy(0, "kinds 10 each 8;player a;player b;player c;hand a 1 of 9;hand a 1 of 8;hand b 4 of 0;hand c 4 of 0;", "turn;");
        Checks.due(x, "of ten KINDS, not of another's", x.hand(0, 8), 0, 0);
        Checks.due(x, "the last one stays", x.hand(0, 9), 1, 0);
        x = playedBy(0, "kinds 3 each 8;player a;player b;player c;hand a 2 of 0;hand a 2 of 1;hand b 1 of 0;hand b 1 of 2;"
            + "hand c 1 of 1;", "turn;turn;");
        Checks.due(x, "KIND 0 is another behind", x.hand(1, 0), 0, 0);
    }

    private static void doubters() {
        Checks.says(0, "Then the others, from the next one on: who knows it is IMPOSSIBLE doubts; else it doubts by a draw by 16 that is less than its DOUBTS;"
            + " the first who doubts is the only one.");
        // who has both of KIND 0 knows; the first from the next one on takes the TURN from who lied
        for (int turn = 0; turn < 4; turn++) {
            for (int knower = 0; knower < 4; knower++) {
                StringBuilder text = new StringBuilder("kinds 3 each 8;law same;player a;player b;player c;player d;");
                for (int p = 0; p < 4; p++) {
                    text.append("hand ").append((char) ('a' + p)).append(" 2 of 1;");
                }
                text.append("hand ").append((char) ('a' + knower)).append(" 2 of 0;");
                CheatHeap x = with(text.toString(), "turn;");
                for (int i = 0; i < turn; i++) {
                    x.lay(1, NONE, NONE, NONE);
                    x.leave();
                }
                x.play(0);
                boolean isKnown = knower != turn;
                Checks.due(x, "doubted", x.played(2), isKnown ? 1 : 0, 0);
                Checks.due(x, "rightly", x.played(3), isKnown ? 1 : 0, 0);
                Checks.due(x, "the TURN", x.many(6), isKnown ? knower : (turn + 1) % 4, 0);
            }
        }
        // b and c both know: b is the only one
        CheatHeap x = playedBy(0, "kinds 2 each 8;player a;player b doubts 16;player c doubts 16;hand a 2 of 1;hand b 1 of 1;", "turn;");
        counts(x, "one doubt", 0, 1, 1, 1, 0);
        Checks.due(x, "b's", x.many(6), 1, 0);
        Checks.due(x, "SHOWN once", x.player(0, 3), 1, 0);
    }

    // by seed 0 the draws are 2, 13, 6, 12
    private static void doubtersDraws() {
        Checks.says(0, "else it doubts by a draw by 16 that is less than its DOUBTS");
        String hands = "hand a 4 of 0;hand b 1 of 1;hand c 1 of 1;hand d 1 of 1;";
        int[][] doubts = {{2, 13, 6}, {3, 0, 0}, {2, 14, 0}, {2, 13, 7}, {3, 14, 7}, {2, 14, 7}, {0, 0, 16}, {0, 0, 0}, {16, 16, 16}};
        int[] due = {NONE, 1, 2, 3, 1, 2, 3, NONE, 1};
        for (int i = 0; i < due.length; i++) {
            CheatHeap x = playedBy(0, "kinds 2 each 8;most 2;player a;player b doubts " + doubts[i][0] + ";player c doubts " + doubts[i][1]
                + ";player d doubts " + doubts[i][2] + ";" + hands, "turn;");
            counts(x, "doubts " + i, 0, 1, due[i] == NONE ? 0 : 1, 0, 0);
            for (int p = 1; p < 4; p++) {
                Checks.due(x, "it was TRUE: who took it " + i, x.player(p, 2), p == due[i] ? 3 : 1, 0);
            }
        }
        Checks.says(0, "who knows it is IMPOSSIBLE doubts");
        // c knows, without a draw, though its DOUBTS are 0; b's draw is 2
        String table = "kinds 2 each 8;player a;player b doubts DD;player c;hand a 2 of 1;hand c 1 of 0;hand b 1 of 1;";
        CheatHeap x = playedBy(0, table.replace("DD", "2"), "turn;");
        Checks.due(x, "c", x.many(6), 2, 0);
        x = playedBy(0, table.replace("DD", "3"), "turn;");
        Checks.due(x, "b is ahead", x.many(6), 1, 0);
        // b knows, without a draw: in the next TURN c lays MOST, and d's draw is the first
        table = "kinds 2 each 8;most 1;law same;player a;player b;hand a 2 of 1;hand b 4 of 1;";
        x = playedBy(0, table + "hand b 2 of 0;", "turn;doubts a 3;turn;");
        counts(x, "no draw ahead", 0, 2, 2, 1, 0);
        x = playedBy(0, table + "hand b 2 of 0;", "turn;doubts a 2;turn;");
        counts(x, "no draw ahead", 0, 2, 1, 1, 0);
    }

    private static void nobodyDoubts() {
        Checks.says(0, "If nobody does it is LEFT.");
        CheatHeap x = playedBy(0, "kinds 3 each 8;player a;player b;player c;hand a 1 of 0;hand b 2 of 1;hand c 1 of 0;", "turn;");
        Checks.due(x, "it lies there", x.many(10), 1, 0);
        Checks.due(x, "not OPEN", x.many(8), 0, 0);
        Checks.due(x, "the next one", x.many(6), 1, 0);
        Checks.due(x, "the next KIND", x.many(5), 1, 0);
        Checks.due(x, "a has WON", x.many(9), 0, 0);
        Checks.due(x, "nothing SHOWN", x.player(0, 3), 0, 0);
        counts(x, "no doubt", 0, 1, 0, 0, 0);
    }

    private static void draws() {
        Checks.says(0, "Draws: s, at first the seed, becomes what is left of s times 2,861 and 10,259 by 65,536; the draw is the rest of s by 8, rounded down,"
            + " by 16.");
        String table = "kinds 2 each 8;law same;most 1;player a;player b;hand a 4 of 0;hand b 4 of 0;";
        for (int[] seed : DRAWS) {
            for (int k = 1; k <= 6; k++) {
                String ahead = "turn;".repeat(k - 1);
                int draw = seed[k];
                CheatHeap x = playedBy(seed[0], table, ahead + "doubts a " + draw + ";doubts b " + draw + ";turn;");
                counts(x, "draw " + k + " of " + seed[0], 0, k, 0, 0, 0);
                x = playedBy(seed[0], table, ahead + "doubts a " + (draw + 1) + ";doubts b " + (draw + 1) + ";turn;");
                counts(x, "draw " + k + " of " + seed[0], 0, k, 1, 0, 0);
            }
        }
    }

    private static void anOpenOneIsLeft() {
        Checks.says(0, "turn: an OPEN LAYING is LEFT first.");
        CheatHeap x = with(TWO, "turn;");
        x.lay(1, NONE, NONE, NONE);
        Checks.due(x, "play", x.play(0), 1, 0);
        counts(x, "not its own LAYING", 0, 1);
        Checks.due(x, "two LAYINGS", x.many(10), 2, 0);
        Checks.due(x, "the second is b's", x.laying(1, 0), 1, 0);
        Checks.due(x, "of KIND 1", x.laying(1, 1), 1, 0);
        x = with(TWO, "lies a 1;when won;end;loop 1;end;stop;");
        x.lay(1, NONE, NONE, NONE);
        x.play(0);
        Checks.due(x, "not by other STEPS", x.many(8), 1, 0);
        x = with("kinds 2 each 8;player a;player b;hand a 1 of 0;hand b 1 of 1;", "turn;");
        x.lay(0, NONE, NONE, NONE);
        x.play(0);
        Checks.due(x, "a has WON so", x.many(9), 0, 0);
        counts(x, "and it is MISSED", 1, 0, 0, 0, 0);
        x = with("kinds 2 each 8;player a;hand a 2 of 0;", "turn;");
        x.lay(0, NONE, NONE, NONE);
        x.play(0);
        Checks.due(x, "of one PLAYER, too", x.many(8), 0, 0);
        counts(x, "and it is MISSED", 1, 0, 0, 0, 0);
    }

    private static void missed() {
        Checks.says(0, "MISSED if somebody has WON, there are no two PLAYERS, or who has the TURN has no card.");
        CheatHeap x = playedBy(0, "kinds 2 each 8;player a;player b;hand a 1 of 0;hand b 3 of 1;", "turn;turn;turn;");
        Checks.due(x, "a has WON", x.many(9), 0, 0);
        counts(x, "two are MISSED", 2, 1, 0, 0, 0);
        Checks.due(x, "b lays none", x.player(1, 2), 3, 0);
        x = playedBy(0, "kinds 2 each 8;player a;hand a 2 of 0;", "turn;turn;");
        counts(x, "one PLAYER", 2, 0, 0, 0, 0);
        x = playedBy(0, "kinds 2 each 8;", "turn;");
        counts(x, "no PLAYER", 1, 0, 0, 0, 0);
        x = playedBy(0, "kinds 2 each 8;player a;player b;hand b 3 of 1;", "turn;turn;");
        counts(x, "no card", 2, 0, 0, 0, 0);
        Checks.due(x, "the TURN stays", x.many(6), 0, 0);
        Checks.due(x, "the KIND stays", x.many(5), 0, 0);
        x = with("kinds 2 each 8;player a;player b;hand b 3 of 1;hand a 1 of 0;", "turn;");
        x.lay(0, NONE, NONE, NONE);
        x.doubt(1);
        x.play(0);
        counts(x, "MISSED behind a doubt that was wrong", 1, 0, 0, 0, 0);
    }

    private static void setLiesAndDoubts() {
        Checks.says(0, "lies, doubts: 0 to 16.");
        for (int n = 0; n <= 16; n++) {
            CheatHeap x = with("kinds 2 each 8;player a lies 7 doubts 7;player b lies 7 doubts 7;", "lies b " + n + ";doubts a " + (16 - n) + ";");
            Checks.due(x, "two STEPS", x.play(0), 2, 0);
            int[] due = {7, 16 - n, n, 7};
            for (int i = 0; i < 4; i++) {
                Checks.due(x, "LIES, DOUBTS " + i, x.player(i / 2, i % 2), due[i], 0);
            }
        }
    }

    private static void when(String table, String test, int value) {
        for (int number = Math.max(0, value - 1); number <= value + 1; number++) {
            for (String sign : new String[] {"<", ">", "="}) {
                boolean holds = sign.equals("<") ? value < number : sign.equals(">") ? value > number : value == number;
                CheatHeap x = with(table, "when " + test + sign + number + ";lies a 9;end;doubts a 9;");
                Checks.due(x, test + " is " + value + ": " + sign + number, x.play(0), holds ? 3 : 2, 0);
                Checks.due(x, "what is in it", x.player(0, 0), holds ? 9 : 0, 0);
                Checks.due(x, "what is behind it", x.player(0, 1), 9, 0);
            }
        }
    }

    private static void whenCardsAndHeap() {
        Checks.says(0, "when cards: 0 to 80; heap: 0 to 80;");
        when(TWO, "cards a", 4);
        when("kinds 2 each 8;player a;player b;hand a 1 of 0;", "cards b", 0);
        StringBuilder all = new StringBuilder("kinds 10 each 8;player a;player b;");
        for (int kind = 0; kind < 10; kind++) {
            all.append("hand b 8 of ").append(kind).append(";");
        }
        CheatHeap x = with(all.toString(), "when cards b = 80;stop;end;turn;");
        Checks.due(x, "80", x.play(0), 2, 0);
        x = with(all.toString(), "when cards b > 79;when cards b < 80;end;stop;end;turn;");
        Checks.due(x, "above 79, not below 80", x.play(0), 3, 0);
        when(TWO, "heap", 0);
        x = with(TWO, "when heap=2;when heap>1;when heap<3;stop;end;end;end;turn;");
        x.lay(0, 0, NONE, NONE);
        Checks.due(x, "the OPEN one, too", x.play(0), 4, 0);
        Checks.due(x, "it is OPEN still", x.many(8), 1, 0);
        x = with("kinds 2 each 8;player a;hand a 8 of 0;hand a 1 of 1;", "when heap = 8;stop;end;turn;");
        x.lay(0, 0, 0, 0);
        x.leave();
        x.lay(0, 0, 0, 0);
        Checks.due(x, "all of the HEAP", x.play(0), 2, 0);
    }

    private static void whenShownAndWon() {
        Checks.says(0, "shown: LAYINGS of a PLAYER that were SHOWN (0 to 999); won: somebody has.");
        when(TWO, "shown a", 0);
        CheatHeap x = with(TWO, "when shown a=2;when shown a>1;when shown a<3;stop;end;end;end;");
        x.lay(0, NONE, NONE, NONE);
        x.doubt(1);
        x.lay(0, NONE, NONE, NONE);
        x.doubt(1);
        Checks.due(x, "TRUE or not", x.play(0), 4, 0);
        Checks.round(x, "when shown b > 0;stop;end;turn;");
        Checks.due(x, "not the other's", x.play(0), 2, 0);
        x = with("kinds 2 each 8;player a;player b;hand a 1 of 0;hand b 1 of 1;", "when won;lies a 9;end;");
        Checks.due(x, "nobody", x.play(0), 1, 0);
        x.lay(0, NONE, NONE, NONE);
        Checks.due(x, "not while it is OPEN", x.play(0), 1, 0);
        x.leave();
        Checks.due(x, "a has", x.play(0), 2, 0);
        x = with("kinds 2 each 8;player a;player b;player c;hand a 2 of 0;hand b 1 of 1;hand c 1 of 0;", "turn;turn;when won;lies c 9;end;");
        Checks.due(x, "b has", x.play(0), 4, 0);
    }

    private static void loops() {
        Checks.says(0, "loop n (1 to 99): as often.");
        Checks.says(0, "At most 300 STEPS (when, loop count as one each time they are come to from ahead; end does not).");
        for (int n : new int[] {1, 2, 3, 98, 99}) {
            CheatHeap x = with(TWO, "loop " + n + ";lies a 1;end;lies b 2;");
            Checks.due(x, "loop " + n, x.play(0), n + 2, 0);
            Checks.due(x, "once more: it counts anew", x.play(0), n + 2, 0);
            Checks.due(x, "what is behind it", x.player(1, 0), 2, 0);
        }
        Checks.due("an empty one", with(TWO, "loop 3;end;").play(0), 1);
        Checks.due("empty ones", with(TWO, "loop 99;loop 99;end;end;").play(0), 100);
        Checks.due("one behind the other", with(TWO, "loop 99;end;loop 99;end;").play(0), 2);
        Checks.due("1, and 4 times 6", with(TWO, "loop 4;loop 5;lies a 1;end;end;").play(0), 25);
        Checks.due("1, and 2 times 1, 3 times 5, 1", with(TWO, "loop 2;loop 3;loop 4;lies a 1;end;end;lies a 1;end;").play(0), 35);
        Checks.due("when counts each time", with(TWO, "loop 5;when won;lies a 1;end;end;").play(0), 6);
        Checks.due("and what is in it", with(TWO, "loop 5;when heap=0;lies a 1;end;end;").play(0), 11);
        Checks.due("none of it", with(TWO, "when won;loop 9;turn;end;end;lies a 1;").play(0), 2);
        Checks.due("empty ones", with(TWO, "when won;end;when heap=0;end;").play(0), 2);
        Checks.due("all", with(TWO, "when heap=0;when heap=0;when heap=0;lies a 1;end;lies a 1;end;lies a 1;end;lies a 1;").play(0), 7);
        CheatHeap x = playedBy(0, "kinds 2 each 8;law same;most 1;player a;player b;hand a 4 of 0;hand b 4 of 0;", "loop 7;turn;end;");
        counts(x, "seven TURNS", 0, 7, 0, 0, 0);
    }

    private static void stops() {
        Checks.says(0, "or stop ;");
        Checks.due("at once", with(TWO, "stop;lies a 1;").play(0), 1);
        Checks.due("then", with(TWO, "lies a 1;stop;lies a 1;").play(0), 2);
        Checks.due("out of a loop", with(TWO, "loop 9;lies a 1;stop;end;lies a 1;").play(0), 3);
        Checks.due("out of three", with(TWO, "loop 9;loop 9;when heap=0;stop;end;end;end;lies a 1;").play(0), 4);
        Checks.due("not come to", with(TWO, "when won;stop;end;lies a 1;").play(0), 2);
        CheatHeap x = with(TWO, "stop;");
        x.play(0);
        Checks.due(x, "and then again", x.play(0), 1, 0);
    }

    private static void left(String round, int steps, int isLeft) {
        CheatHeap x = with(TWO, round);
        Checks.due(x, round, x.play(0), steps, 0);
        Checks.due(x, "left of " + round, x.played(4), isLeft, 0);
    }

    private static void threeHundred() {
        Checks.says(51, "4: 1 if a STEP was left to be done (by the 300 alone, not by stop), else 0");
        Checks.says(0, "At most 300 STEPS");
        String most = "loop 99;lies a 1;lies a 2;lies a 3;end;";
        left(most, 298, 0);
        left(most + "lies a 4;", 299, 0);
        left(most + "lies a 4;lies a 5;", 300, 0);
        left(most + "lies a 4;lies a 5;lies a 6;", 300, 1);
        left(most + "lies a 4;lies a 5;stop;", 300, 1);
        left(most + "lies a 4;stop;lies a 5;", 300, 0);
        left(most + "stop;lies a 4;lies a 5;", 299, 0);
        left(most + "lies a 4;lies a 5;loop 9;end;", 300, 1);
        left(most + "lies a 4;lies a 5;when won;end;", 300, 1);
        left(most + "lies a 4;loop 9;end;", 300, 0);
        left(most + "lies a 4;loop 1;lies a 5;end;", 300, 1);
        left(most + "lies a 4;when won;lies a 5;end;", 300, 0);
        left(most + "lies a 4;when heap=0;end;", 300, 0);
        left(most + "lies a 4;when heap=0;lies a 5;end;", 300, 1);
        left(most + "loop 1;lies a 4;end;", 300, 0);
        left(most + "loop 2;lies a 4;end;", 300, 1);
        left(most + "when heap=0;lies a 4;end;", 300, 0);
        left("loop 99;lies a 1;lies a 2;lies a 3;lies a 4;end;", 300, 1);
        left("loop 99;loop 99;loop 99;end;end;end;", 300, 1);
        left("", 0, 0);
        CheatHeap x = with(TWO, most + "lies a 4;lies a 5;lies a 6;");
        x.play(0);
        Checks.due(x, "the 300th was done, no more", x.player(0, 0), 5, 0);
        x.play(0);
        Checks.due(x, "it counts anew", x.play(0), 300, 0);
    }

    private static void played() {
        Checks.says(51, "Of play() latest with STATUS 0, what 0: MISSED, 1: LAYINGS, 2: DOUBTS, 3: of these right ones (not TRUE), 4: 1 if a STEP was left to"
            + " be done (by the 300 alone, not by stop), else 0 (5; 8: there was none).");
        CheatHeap x = Checks.withTable("kinds 2 each 8;player a;player b doubts 16;player c;hand a 2 of 0;hand a 1 of 1;hand b 2 of 1;hand c 1 of 0;");
        for (int what : new int[] {MIN, -1, 5, MAX}) {
            Checks.due(x, "5 ahead of 8", x.played(what), NONE, 5);
        }
        for (int what = 0; what <= 4; what++) {
            Checks.due(x, "there was none", x.played(what), NONE, 8);
        }
        Checks.round(x, "turn;turn;");
        x.play(-1);
        x.wins(0, 0, 1);
        x.left(0, 0, 1);
        Checks.due(x, "there was none with STATUS 0", x.played(0), NONE, 8);
        x.mark();
        // b doubts a's two of KIND 0 wrongly; then a has 1 of 1, lays it, and b doubts that wrongly, too: a has WON
        x.play(0);
        counts(x, "wrong ones", 0, 2, 2, 0, 0);
        x.back();
        counts(x, "back() leaves it", 0, 2, 2, 0, 0);
        x.lay(1, NONE, NONE, NONE);
        x.leave();
        x.bend(0, 0, 16);
        x.bend(1, 0, 0);
        Checks.round(x, "turn;turn;turn;turn;turn;");
        counts(x, "so does round()", 0, 2, 2, 0, 0);
        x.play(10000);
        counts(x, "so does one that is refused", 0, 2, 2, 0, 0);
        Checks.round(x, "");
        x.play(0);
        counts(x, "counted anew", 0, 0, 0, 0, 0);
        for (int what : new int[] {MIN, -1, 5, MAX}) {
            Checks.due(x, "what " + what, x.played(what), NONE, 5);
        }
        x = playedBy(0, "kinds 2 each 8;player a;player b doubts 16;hand a 1 of 1;hand a 1 of 0;hand b 1 of 0;hand b 2 of 1;", "turn;turn;turn;turn;turn;turn;");
        Checks.due(x, "some were MISSED", x.played(0) > 0, true, 0);
        Checks.round(x, "stop;");
        x.play(0);
        counts(x, "all counted anew", 0, 0, 0, 0, 0);
        x = playedBy(0, "kinds 2 each 8;player a lies 16;player b doubts 16;hand a 2 of 1;hand a 1 of 0;hand b 1 of 0;hand b 2 of 1;", "turn;");
        counts(x, "a right one", 0, 1, 1, 1, 0);
        Checks.round(x, "stop;");
        x.play(0);
        counts(x, "all counted anew", 0, 0, 0, 0, 0);
    }

    private static void winsRefused() {
        CheatHeap x = Checks.withTable(TWO);
        int[][] bad = {{-1, 1}, {MIN, 1}, {10000, 1}, {MAX, 1}, {0, 0}, {0, -1}, {0, MIN}, {0, 21}, {0, MAX}, {9999, 2}, {9981, 20}, {9990, 11},
            {MAX, 20}, {MIN, MIN}, {MAX, MAX}, {-1, 20}, {-5, 10}};
        for (int i = 0; i < 2; i++) {
            Checks.says(52, "The FRACTION is behind how many of so many seeds (1 to 20) from one on a PLAYER has WON (all stays as it is) (2; 5: the last above"
                + " 9,999, too; 8).");
            x.honest(0);
            for (int[] v : bad) {
                Checks.due(x, "wins " + v[0] + " " + v[1], x.wins(0, v[0], v[1]), false, 5);
                Checks.due(x, "2 ahead of 5", x.wins(2, v[0], v[1]), false, 2);
            }
            Checks.says(53, "The FRACTION is the mean of how many cards it has behind the ROUND (likewise).");
            for (int[] v : bad) {
                Checks.due(x, "left " + v[0] + " " + v[1], x.left(0, v[0], v[1]), false, 5);
                Checks.due(x, "2 ahead of 5", x.left(2, v[0], v[1]), false, 2);
            }
            for (int p : new int[] {MIN, -1, 2, 6, MAX}) {
                Checks.due(x, "no PLAYER", x.wins(p, 0, 1), false, 2);
                Checks.due(x, "no PLAYER", x.left(p, 0, 1), false, 2);
            }
            if (i == 0) {
                Checks.due(x, "no ROUND", x.wins(0, 0, 1), false, 8);
                Checks.due(x, "no ROUND", x.left(0, 0, 1), false, 8);
                Checks.round(x, "turn;turn;turn;");
            }
            Checks.due("the FRACTION stays", x.bottom(), 2);
        }
        int[][] good = {{0, 1}, {0, 20}, {9999, 1}, {9998, 2}, {9980, 20}};
        for (int[] v : good) {
            Checks.due(x, "wins " + v[0] + " " + v[1], x.wins(1, v[0], v[1]), true, 0);
            Checks.due(x, "left " + v[0] + " " + v[1], x.left(1, v[0], v[1]), true, 0);
        }
    }

    private static void winsAndLeft() {
        Checks.says(52, "(all stays as it is)");
        CheatHeap x = with("kinds 2 each 8;player a lies 8 doubts 3;player b doubts 2;player c;hand a 1 of 0;hand a 1 of 1;hand b 1 of 0;hand b 1 of 1;"
            + "hand c 3 of 0;hand c 2 of 1;", "loop 9;turn;end;");
        for (int many : new int[] {1, 2, 7, 20}) {
            for (int from : new int[] {0, 5, 9980}) {
                for (int p = 0; p < 3; p++) {
                    int won = 0;
                    int cards = 0;
                    for (int i = 0; i < many; i++) {
                        x.mark();
                        x.play(from + i);
                        won += x.many(9) == p ? 1 : 0;
                        cards += x.player(p, 2);
                        x.back();
                    }
                    x.honest(0);
                    long[] before = Checks.look(x);
                    x.wins(p, from, many);
                    Checks.due("WON " + p, x.top() * many, won * x.bottom());
                    Checks.due("no common divisor", x.bottom() <= many && many % x.bottom() == 0, true);
                    x.left(p, from, many);
                    Checks.due("cards of " + p, x.top() * many, cards * x.bottom());
                    x.honest(0);
                    Checks.due("all stays", Arrays.equals(before, Checks.look(x)), true);
                }
            }
        }
        x = with("kinds 2 each 8;player a;player b;hand a 1 of 0;hand b 3 of 1;", "turn;");
        Checks.fraction(x, "always", x.wins(0, 0, 20), 1, 1);
        Checks.fraction(x, "never", x.wins(1, 0, 20), 0, 1);
        Checks.fraction(x, "none", x.left(0, 0, 20), 0, 1);
        Checks.fraction(x, "all", x.left(1, 0, 20), 3, 1);
        x.play(0);
        Checks.fraction(x, "it has WON already", x.wins(0, 9999, 1), 1, 1);
        x = with(TWO, "");
        Checks.fraction(x, "an empty ROUND", x.left(0, 0, 3), 4, 1);
        Checks.fraction(x, "nobody", x.wins(0, 0, 3), 0, 1);
    }

    private static void marks() {
        Checks.says(0, "MARKS, at most 3: the TABLE with all that became of it, the ROUND are kept as they are; all is taken back to the latest MARK, which is gone"
            + " then.");
        CheatHeap x = Checks.withTable(TWO);
        for (int i = 0; i < 3; i++) {
            Checks.says(55, "All is taken back to the latest MARK: how many there are left (8).");
            Checks.due(x, "none", x.back(), NONE, 8);
            Checks.says(54, "A MARK more: how many there are (7).");
            for (int n = 1; n <= 3; n++) {
                x.bend(0, n, n);
                Checks.due(x, "mark", x.mark(), n, 0);
            }
            x.bend(0, 9, 9);
            Checks.due(x, "a fourth", x.mark(), NONE, 7);
            Checks.due(x, "a fifth", x.mark(), NONE, 7);
            Checks.due(x, "nothing changed", x.player(0, 0), 9, 0);
            Checks.says(55, "how many there are left (8)");
            for (int n = 2; n >= 0; n--) {
                Checks.due(x, "back", x.back(), n, 0);
                Checks.due(x, "to the latest", x.player(0, 0), n + 1, 0);
            }
            Checks.due(x, "none is left", x.back(), NONE, 8);
            Checks.due(x, "nothing changed", x.player(0, 0), 1, 0);
        }
        x.mark();
        x.mark();
        x.back();
        Checks.due(x, "one gone, one more", x.mark(), 2, 0);
    }

    private static void marksKeep() {
        Checks.says(0, "the TABLE with all that became of it, the ROUND are kept as they are");
        CheatHeap x = new CheatHeap();
        x.mark();
        Checks.table(x, TWO + "law down;most 3;");
        Checks.round(x, "lies a 5;");
        x.lay(1, NONE, NONE, NONE);
        x.doubt(1);
        x.lay(0, 1, NONE, NONE);
        x.leave();
        x.lay(0, 1, 0, NONE);
        x.tray(0, 0, 5);
        x.honest(0);
        long[] before = Checks.look(x);
        Checks.due(x, "mark", x.mark(), 2, 0);
        Checks.due("it changes nothing", Arrays.equals(before, Checks.look(x)), true);
        x.doubt(1);
        x.bend(1, 3, 3);
        Checks.table(x, "kinds 9 each 1;player zz;");
        Checks.due(x, "no ROUND", x.play(0), NONE, 8);
        Checks.round(x, "turn;turn;");
        x.write(0, 3, 77);
        x.tray(1, 1, 1);
        x.guess(0, 0, 0);
        x.feed(0, 0, 0, 0, 0);
        Checks.due(x, "back", x.back(), 1, 0);
        Checks.due("the FRACTION is not kept", x.bottom(), 1);
        Checks.due(x, "nor are TRAYS", x.read(0, 3), 77, 0);
        Checks.due(x, "nor are TRAYS", x.read(1, 0), 0, 0);
        Checks.due("nor is the tape", x.feed(0, 0, 0, 0, 0), 40);
        x.table(0);
        x.round(0);
        x.mark();
        x.back();
        x.honest(0);
        x.write(0, 3, 0);
        long[] behind = Checks.look(x);
        int differ = 0;
        for (int i = 0; i < before.length; i++) {
            differ += before[i] == behind[i] ? 0 : 1;
        }
        Checks.due("all of the game is as it was, but TRAY 1", differ, 1);
        Checks.due(x, "of the new object", x.back(), 0, 0);
        Checks.due(x, "two KINDS", x.many(0), 2, 0);
        Checks.due(x, "no PLAYERS", x.many(2), 0, 0);
        Checks.due(x, "no ROUND", x.play(0), NONE, 8);
    }

    private static void marksKeepAGame() {
        Checks.says(55, "All is taken back to the latest MARK");
        CheatHeap x = with("kinds 2 each 8;law same;player a;player b;hand a 2 of 0;hand a 1 of 1;hand b 2 of 1;", "loop 2;lies b 4;end;");
        x.lay(0, NONE, NONE, NONE);
        x.mark();
        x.leave();
        x.lay(1, 1, NONE, NONE);
        x.leave();
        x.mark();
        Checks.due(x, "b has WON", x.many(9), 1, 0);
        x.back();
        Checks.due(x, "b has WON still", x.many(9), 1, 0);
        x.play(0);
        Checks.table(x, TWO);
        x.back();
        Checks.due(x, "nobody has", x.many(9), NONE, 8);
        Checks.due(x, "a's is OPEN", x.many(8), 1, 0);
        Checks.due(x, "the TURN is a's", x.many(6), 0, 0);
        Checks.due(x, "SAME", x.many(3), 2, 0);
        Checks.due(x, "one LAYING", x.many(10), 1, 0);
        Checks.due(x, "b's cards", x.hand(1, 1), 2, 0);
        Checks.due(x, "b's LIES", x.player(1, 0), 0, 0);
        Checks.due(x, "the ROUND", x.play(0), 3, 0);
        Checks.due(x, "the NAMES", Checks.round(x, "lies b 1;"), 1, 0);
        Checks.due(x, "it goes on", x.doubt(1), 1, 0);
        Checks.due(x, "all of it", x.hand(1, 0), 1, 0);
    }

    private static void marksKeepTheHeap() {
        Checks.says(0, "the TABLE with all that became of it, the ROUND are kept as they are");
        CheatHeap x = with("kinds 3 each 8;player a;player b;hand a 4 of 0;hand a 3 of 1;hand b 3 of 1;hand b 4 of 2;", "turn;");
        x.lay(0, 1, NONE, NONE);
        x.leave();
        x.lay(2, 2, 1, NONE);
        x.mark();
        x.doubt(0);
        x.lay(1, NONE, NONE, NONE);
        x.doubt(1);
        for (int i = 0; i < 4; i++) {
            x.lay(Integer.numberOfTrailingZeros(x.has(x.many(6))), NONE, NONE, NONE);
            x.leave();
        }
        Checks.due(x, "another HEAP", x.many(10), 4, 0);
        Checks.due(x, "another one's", x.laying(0, 0), 1, 0);
        x.back();
        int[][] due = {{0, 0, 2, 1}, {1, 1, 3, 1}};
        int[][] cards = {{0, 1}, {1, 2, 2}};
        for (int k = 0; k < 2; k++) {
            for (int what = 0; what < 4; what++) {
                Checks.due(x, "laying " + k + " " + what, x.laying(k, what), due[k][what], 0);
            }
            for (int i = 0; i < cards[k].length; i++) {
                Checks.due(x, "card " + k + " " + i, x.cardOf(k, i), cards[k][i], 0);
            }
        }
        Checks.due(x, "no third", x.laying(2, 0), NONE, 8);
        Checks.due(x, "it is not TRUE", x.doubt(0), 1, 0);
    }

    private static void trialsKeepTheHeap() {
        Checks.says(52, "(all stays as it is)");
        CheatHeap x = with("kinds 3 each 8;player a lies 9;player b doubts 9;hand a 4 of 0;hand a 3 of 1;hand b 3 of 1;hand b 4 of 2;", "turn;turn;turn;");
        x.lay(0, 1, NONE, NONE);
        x.leave();
        x.lay(2, 2, 1, NONE);
        x.honest(0);
        long[] before = Checks.look(x);
        x.wins(0, 0, 20);
        x.left(1, 7, 20);
        x.honest(0);
        Checks.due("nothing changed", Arrays.equals(before, Checks.look(x)), true);
        Checks.due(x, "it is OPEN", x.impossible(0), 0, 0);
    }
}
