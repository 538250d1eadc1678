/** What is best, and who has what: promises 41 to 49. */
final class BestEdges {
    private static final int NONE = CheatHeap.NONE;
    private static final int MIN = Integer.MIN_VALUE;
    private static final int MAX = Integer.MAX_VALUE;
    private static final String ABC = "player a;player b;player c;";

    private BestEdges() {
    }

    static void run() {
        bestByD();
        bestByMost();
        bestWithTheHeap();
        bestOfSeveral();
        bestRefused();
        sayers();
        sayersByLaw();
        sayersRefused();
        has();
        lies();
        guess();
        guessRefused();
        fullest();
        quartet();
        sorts();
        liar();
    }

    private static void best(CheatHeap x, String what, int d, int t, int f, long top, long bottom) {
        Checks.due(x, what + ": t by " + d, x.best(d, 0), t, 0);
        Checks.due("top behind t of " + what, x.top(), top);
        Checks.due("bottom behind t of " + what, x.bottom(), bottom);
        Checks.due(x, what + ": f by " + d, x.best(d, 1), f, 0);
        Checks.due("top behind f of " + what, x.top(), top);
        Checks.due("bottom behind f of " + what, x.bottom(), bottom);
    }

    private static void bestByD() {
        Checks.says(41, "BEST to lay, d 0 to 16, what 0: t, 1: f; the FRACTION is that mean");
        Checks.says(0, "BEST to lay, for who has the TURN, if the next one alone doubts, by d sixteenths: t TRUE cards and f others, 1 to MOST together,"
            + " as it has them: the least mean of how many cards it has then (if f is above 0 and it is DOUBTED it takes the HEAP with these);"
            + " of several the fewest f, then the most t.");
        CheatHeap x = Checks.withTable("kinds 2 each 8;player a;player b;hand a 3 of 0;hand a 6 of 1;");
        // 3 and 0 leave 6; 3 and 1 leave 5, and by d sixteenths 4 more
        best(x, "nobody doubts", 0, 3, 1, 5, 1);
        best(x, "seldom", 1, 3, 1, 21, 4);
        best(x, "less than by four", 3, 3, 1, 23, 4);
        best(x, "as good: the fewest f", 4, 3, 0, 6, 1);
        best(x, "always", 16, 3, 0, 6, 1);
        x = Checks.withTable("kinds 2 each 8;player a;player b;hand a 6 of 1;");
        best(x, "others alone", 0, 0, 4, 2, 1);
        // the more the better, as long as d is less than 16
        best(x, "others alone", 15, 0, 4, 23, 4);
        best(x, "as good: the fewest f", 16, 0, 1, 6, 1);
        x = Checks.withTable("kinds 2 each 8;player a;player b;hand a 1 of 0;");
        best(x, "the last one", 16, 1, 0, 0, 1);
    }

    private static void bestByMost() {
        Checks.says(0, "1 to MOST together, as it has them");
        for (int most = 1; most <= 4; most++) {
            CheatHeap x = Checks.withTable("kinds 3 each 8;most " + most + ";player a;player b;hand a 7 of 0;hand a 4 of 1;");
            best(x, "MOST " + most, 0, most, 0, 11 - most, 1);
            x = Checks.withTable("kinds 3 each 8;most " + most + ";player a;player b;hand a 1 of 0;hand a 1 of 1;hand a 1 of 2;");
            int f = Math.min(most - 1, 2);
            best(x, "one of each, MOST " + most, 0, 1, f, 2 - f, 1);
            x = Checks.withTable("kinds 3 each 8;most " + most + ";player a;player b;hand a 7 of 2;");
            best(x, "none of it, MOST " + most, 0, 0, most, 7 - most, 1);
        }
        CheatHeap x = Checks.withTable("kinds 3 each 8;player a;player b;hand a 2 of 0;");
        best(x, "no others", 0, 2, 0, 0, 1);
    }

    private static void bestWithTheHeap() {
        Checks.says(0, "if f is above 0 and it is DOUBTED it takes the HEAP with these");
        CheatHeap x = Checks.withTable("kinds 2 each 8;law same;player a;player b;hand a 8 of 1;hand b 4 of 0;hand a 2 of 0;");
        x.lay(1, 1, 1, 1);
        x.leave();
        // b has 4 of KIND 0: all of them
        best(x, "no others", 1, 4, 0, 0, 1);
        x.lay(0, NONE, NONE, NONE);
        x.leave();
        // a has 2 of KIND 0 and 4 of 1, the HEAP 5: 2 and 0 leave 4; 2 and 2 leave 2, and by d sixteenths 9 more
        best(x, "by 3", 3, 2, 2, 59, 16);
        best(x, "by 4", 4, 2, 0, 4, 1);
        best(x, "by 0", 0, 2, 2, 2, 1);
        x.lay(0, 0, NONE, NONE);
        x.leave();
        x.lay(0, NONE, NONE, NONE);
        x.leave();
        // a has 4 of KIND 1, the HEAP 8: f others leave 4 - f, and by d sixteenths 8 + f more
        best(x, "others alone", 8, 0, 4, 6, 1);
        best(x, "doubted always", 16, 0, 1, 12, 1);
        best(x, "by 15", 15, 0, 4, 45, 4);
    }

    private static void bestOfSeveral() {
        Checks.says(0, "of several the fewest f, then the most t");
        CheatHeap x = Checks.withTable("kinds 2 each 8;player a;player b;hand a 2 of 0;hand a 2 of 1;");
        // 2 and 0 leave 2; 2 and 1 leave 1 and 3 d; 2 and 2 leave 0 and 4 d: by 8 all leave 2 or more
        best(x, "by 8", 8, 2, 0, 2, 1);
        best(x, "by 7", 7, 2, 2, 7, 4);
        x = Checks.withTable("kinds 2 each 8;most 2;player a;player b;hand a 1 of 0;hand a 5 of 1;");
        // 1 and 0 leave 5; 1 and 1 leave 4 and 2 d; 0 and 2 leave 4 and 2 d
        best(x, "1 and 1, not 0 and 2", 4, 1, 1, 9, 2);
        x = Checks.withTable("kinds 2 each 8;most 3;player a;player b;hand a 2 of 0;hand a 5 of 1;");
        best(x, "2 and 1, not 1 and 2 or 0 and 3", 1, 2, 1, 67, 16);
    }

    private static void bestRefused() {
        Checks.says(41, "(5; 8: no PLAYERS; 9: one is OPEN, somebody has WON, it has no card)");
        CheatHeap x = Checks.withTable("kinds 2 each 8;player a;player b;hand a 2 of 0;hand b 1 of 1;");
        int[][] bad = {{-1, 0}, {17, 0}, {MIN, 0}, {MAX, 0}, {0, -1}, {0, 2}, {16, MIN}, {16, MAX}};
        x.honest(0);
        for (int[] v : bad) {
            Checks.due(x, "best " + v[0] + " " + v[1], x.best(v[0], v[1]), NONE, 5);
            Checks.due("the FRACTION stays", x.bottom(), 2);
        }
        Checks.due(x, "0", x.best(0, 0), 2, 0);
        Checks.due(x, "16", x.best(16, 1), 0, 0);
        x.honest(0);
        x.lay(0, NONE, NONE, NONE);
        Checks.due(x, "one is OPEN", x.best(0, 0), NONE, 9);
        Checks.due(x, "5 ahead of 9", x.best(0, 2), NONE, 5);
        Checks.due("the FRACTION stays", x.bottom(), 2);
        x.leave();
        Checks.due(x, "b has one", x.best(0, 0), 1, 0);
        x.lay(1, NONE, NONE, NONE);
        x.leave();
        Checks.due(x, "somebody has WON", x.many(9), 1, 0);
        Checks.due(x, "a has one, but b has WON", x.best(0, 0), NONE, 9);
        x = new CheatHeap();
        Checks.due(x, "no PLAYERS", x.best(0, 0), NONE, 8);
        Checks.due(x, "5 ahead of 8", x.best(0, 2), NONE, 5);
        x = Checks.withTable("kinds 2 each 8;player a;player b;hand b 1 of 1;");
        Checks.due(x, "it has no card", x.best(0, 0), NONE, 9);
    }

    private static void sayers() {
        Checks.says(42, "SAYER (2; 8: no PLAYERS, never).");
        Checks.says(0, "SAYER of a KIND: who first will have to say it, if all is LEFT, everybody lays, and nobody has WON (the one who has the TURN, if it is"
            + " to be said now and nothing is OPEN).");
        for (int players = 1; players <= 6; players++) {
            for (int kinds = 2; kinds <= 10; kinds += 4) {
                StringBuilder text = new StringBuilder("kinds " + kinds + " each 8;");
                for (int p = 0; p < players; p++) {
                    text.append("player ").append((char) ('a' + p)).append(";");
                }
                CheatHeap x = Checks.withTable(text + "hand a 8 of 1;");
                for (int kind = 0; kind < kinds; kind++) {
                    Checks.due(x, "kind " + kind + " of " + kinds, x.sayer(kind), kind % players, 0);
                }
                x.lay(1, NONE, NONE, NONE);
                Checks.due(x, "the KIND that is said now", x.sayer(0), kinds % players, 0);
                Checks.due(x, "the next", x.sayer(1), 1 % players, 0);
                Checks.due(x, "the last", x.sayer(kinds - 1), (kinds - 1) % players, 0);
                x.leave();
                Checks.due(x, "the KIND that is to be said now", x.sayer(1), 1 % players, 0);
                Checks.due(x, "the last to come", x.sayer(0), kinds % players, 0);
            }
        }
    }

    private static void sayersByLaw() {
        Checks.says(0, "who first will have to say it");
        CheatHeap x = Checks.withTable("kinds 5 each 8;law down;" + ABC + "hand a 4 of 1;");
        int[] due = {0, 1, 0, 2, 1};
        int[] open = {2, 1, 0, 2, 1};
        for (int kind = 0; kind < 5; kind++) {
            Checks.due(x, "DOWN " + kind, x.sayer(kind), due[kind], 0);
        }
        x.lay(1, NONE, NONE, NONE);
        for (int kind = 0; kind < 5; kind++) {
            Checks.due(x, "DOWN, while one is OPEN " + kind, x.sayer(kind), open[kind], 0);
        }
        Checks.says(42, "(2; 8: no PLAYERS, never)");
        x = Checks.withTable("kinds 5 each 8;law same;" + ABC + "hand a 4 of 1;hand b 2 of 1;");
        Checks.due(x, "SAME", x.sayer(0), 0, 0);
        Checks.due(x, "never", x.sayer(1), NONE, 8);
        Checks.due(x, "never", x.sayer(4), NONE, 8);
        x.lay(1, NONE, NONE, NONE);
        Checks.due(x, "the next one", x.sayer(0), 1, 0);
        Checks.due(x, "never", x.sayer(1), NONE, 8);
        x.doubt(2);
        Checks.due(x, "KIND 1 now, c has the TURN", x.sayer(1), 2, 0);
        Checks.due(x, "never again", x.sayer(0), NONE, 8);
        x = Checks.withTable("kinds 2 each 8;law same;player a;hand a 4 of 0;");
        x.lay(0, NONE, NONE, NONE);
        Checks.due(x, "the next one is the same", x.sayer(0), 0, 0);
    }

    private static void sayersRefused() {
        Checks.says(42, "(2; 8: no PLAYERS, never)");
        CheatHeap x = new CheatHeap();
        Checks.due(x, "no PLAYERS", x.sayer(0), NONE, 8);
        Checks.due(x, "no PLAYERS", x.sayer(1), NONE, 8);
        for (int kind : new int[] {MIN, -1, 2, 10, MAX}) {
            Checks.due(x, "2 ahead of 8", x.sayer(kind), NONE, 2);
        }
        x = Checks.withTable("kinds 10 each 8;" + ABC);
        Checks.due(x, "the last KIND", x.sayer(9), 0, 0);
        Checks.due(x, "no KIND", x.sayer(10), NONE, 2);
        Checks.due(x, "no KIND", x.sayer(-1), NONE, 2);
    }

    private static void has() {
        Checks.says(43, "The set of KINDS of which a PLAYER has any (1 for KIND 0 ..) (2).");
        StringBuilder all = new StringBuilder("kinds 10 each 8;" + ABC + "hand b 1 of 9;hand b 3 of 0;");
        for (int kind = 0; kind < 10; kind++) {
            all.append("hand a 2 of ").append(kind).append(";");
        }
        CheatHeap x = Checks.withTable(all.toString());
        Checks.due(x, "all", x.has(0), 1023, 0);
        Checks.due(x, "the first and the last", x.has(1), 513, 0);
        Checks.due(x, "none", x.has(2), 0, 0);
        x.lay(0, NONE, NONE, NONE);
        Checks.due(x, "one of two", x.has(0), 1023, 0);
        x.leave();
        x.lay(0, 0, 0, NONE);
        Checks.due(x, "not what lies in the HEAP", x.has(1), 512, 0);
        for (int p : new int[] {MIN, -1, 3, 6, MAX}) {
            Checks.due(x, "no PLAYER", x.has(p), NONE, 2);
        }
    }

    private static void lies() {
        Checks.says(44, "How many of a KIND truly lie in the HEAP (2).");
        CheatHeap x = Checks.withTable("kinds 3 each 8;" + ABC + "hand a 5 of 1;hand a 1 of 2;hand b 3 of 1;hand b 2 of 2;");
        int[][] due = {{0, 0, 0}, {0, 3, 1}, {0, 5, 1}};
        for (int i = 0; i < 3; i++) {
            for (int kind = 0; kind < 3; kind++) {
                Checks.due(x, "lies " + kind + " behind " + i, x.lies(kind), due[i][kind], 0);
            }
            if (i == 0) {
                x.lay(1, 2, 1, 1);
                x.leave();
            } else if (i == 1) {
                x.lay(1, 1, NONE, NONE);
            }
        }
        x.doubt(2);
        Checks.due(x, "taken", x.lies(1), 0, 0);
        for (int kind : new int[] {MIN, -1, 3, 10, MAX}) {
            Checks.due(x, "no KIND", x.lies(kind), NONE, 2);
        }
    }

    private static void guess() {
        Checks.says(45, "The FRACTION is GUESS, n 0 to 4 (2; 5; 9: there are fewer UNKNOWN).");
        Checks.says(0, "GUESS of a PLAYER: ODDS that n cards, taken from all UNKNOWN ones, are all of a KIND.");
        CheatHeap x = Checks.withTable("kinds 3 each 8;" + ABC + "hand a 2 of 0;hand b 4 of 0;hand b 3 of 1;hand c 1 of 1;");
        long[][] due = {{1, 1}, {1, 2}, {3, 14}, {1, 14}, {1, 70}};
        for (int n = 0; n <= 4; n++) {
            Checks.fraction(x, "4 of 8, " + n, x.guess(0, 0, n), due[n][0], due[n][1]);
            Checks.fraction(x, "4 of 8, " + n, x.guess(0, 1, n), due[n][0], due[n][1]);
            Checks.fraction(x, "none of 8, " + n, x.guess(0, 2, n), n == 0 ? 1 : 0, 1);
        }
        Checks.fraction(x, "one of 3", x.guess(1, 1, 1), 1, 3);
        Checks.fraction(x, "two, of one", x.guess(1, 1, 2), 0, 1);
        Checks.fraction(x, "two of two by three", x.guess(1, 0, 2), 1, 3);
        Checks.fraction(x, "all three", x.guess(1, 0, 3), 0, 1);
        x.lay(0, 0, NONE, NONE);
        Checks.fraction(x, "those in the HEAP are UNKNOWN", x.guess(1, 0, 2), 1, 3);
        Checks.fraction(x, "but not its own", x.guess(0, 0, 1), 1, 2);
    }

    private static void guessRefused() {
        Checks.says(45, "n 0 to 4 (2; 5; 9: there are fewer UNKNOWN)");
        CheatHeap x = Checks.withTable("kinds 3 each 8;" + ABC + "hand a 2 of 0;hand b 1 of 0;hand c 4 of 1;");
        for (int n : new int[] {MIN, -1, 5, MAX}) {
            Checks.due(x, "guess " + n, x.guess(0, 0, n), false, 5);
            Checks.due(x, "2 ahead of 5: no PLAYER", x.guess(3, 0, n), false, 2);
            Checks.due(x, "2 ahead of 5: no KIND", x.guess(0, 3, n), false, 2);
            Checks.due(x, "5 ahead of 9", x.guess(2, 0, n), false, 5);
        }
        for (int v : new int[] {MIN, -1, 3, 10, MAX}) {
            Checks.due(x, "no PLAYER", x.guess(v, 0, 1), false, 2);
            Checks.due(x, "no KIND", x.guess(0, v, 1), false, 2);
            Checks.due(x, "2 ahead of 9", x.guess(2, v, 4), false, 2);
        }
        Checks.fraction(x, "all three", x.guess(2, 0, 3), 1, 1);
        Checks.due(x, "one more", x.guess(2, 0, 4), false, 9);
        Checks.due(x, "of a KIND of which none is there", x.guess(2, 2, 4), false, 9);
        x = Checks.withTable("kinds 2 each 8;player a;hand a 3 of 0;");
        Checks.fraction(x, "none of none", x.guess(0, 0, 0), 1, 1);
        Checks.due(x, "one of none", x.guess(0, 0, 1), false, 9);
    }

    private static void fullest() {
        Checks.says(46, "FULLEST (8: no PLAYERS).");
        Checks.says(0, "FULLEST: who has the most cards, of several the first.");
        CheatHeap x = new CheatHeap();
        Checks.due(x, "no PLAYERS", x.fullest(), NONE, 8);
        x = Checks.withTable("kinds 2 each 8;player a;");
        Checks.due(x, "one alone, without a card", x.fullest(), 0, 0);
        x = Checks.withTable("kinds 2 each 8;" + ABC);
        Checks.due(x, "nobody has any", x.fullest(), 0, 0);
        x = Checks.withTable("kinds 2 each 8;" + ABC + "hand b 2 of 1;hand c 2 of 0;");
        Checks.due(x, "of two the first", x.fullest(), 1, 0);
        x = Checks.withTable("kinds 2 each 8;" + ABC + "hand a 2 of 0;hand b 2 of 1;hand c 1 of 0;hand c 2 of 1;");
        Checks.due(x, "the last", x.fullest(), 2, 0);
        x.lay(0, NONE, NONE, NONE);
        x.leave();
        x.lay(1, NONE, NONE, NONE);
        x.leave();
        x.lay(0, 1, NONE, NONE);
        Checks.due(x, "one each: not those in the HEAP", x.fullest(), 0, 0);
        x.doubt(1);
        Checks.due(x, "who took it", x.fullest(), 2, 0);
    }

    private static void quartet() {
        Checks.says(47, "QUARTET (2; 8: none).");
        Checks.says(0, "QUARTET: a KIND of which a PLAYER has all that are in the game: the first.");
        CheatHeap x = Checks.withTable("kinds 4 each 8;" + ABC + "hand a 2 of 0;hand a 3 of 2;hand a 1 of 3;hand b 1 of 0;hand b 8 of 1;");
        Checks.due(x, "the first", x.quartet(0), 2, 0);
        Checks.due(x, "all eight", x.quartet(1), 1, 0);
        Checks.due(x, "none", x.quartet(2), NONE, 8);
        x.lay(2, NONE, NONE, NONE);
        Checks.due(x, "one of these lies in the HEAP", x.quartet(0), 3, 0);
        x.leave();
        x.lay(0, NONE, NONE, NONE);
        Checks.due(x, "one of KIND 0 lies in the HEAP", x.quartet(0), 3, 0);
        x.doubt(0);
        Checks.due(x, "b took these", x.quartet(1), 1, 0);
        for (int p : new int[] {MIN, -1, 3, 6, MAX}) {
            Checks.due(x, "no PLAYER", x.quartet(p), NONE, 2);
        }
        x = Checks.withTable("kinds 3 each 1;player a;player b;hand a 1 of 0;hand b 1 of 2;");
        Checks.due(x, "one alone", x.quartet(0), 0, 0);
        Checks.due(x, "the last KIND", x.quartet(1), 2, 0);
    }

    private static void sorts() {
        Checks.says(48, "How many LAYINGS in the HEAP are TRUE (what 0), MIXED (1), FALSE (2) (5).");
        CheatHeap x = Checks.withTable("kinds 2 each 8;player a;player b;hand a 4 of 0;hand a 4 of 1;hand b 4 of 0;hand b 4 of 1;");
        int[][] due = {{0, 0, 0}, {0, 0, 1}, {0, 1, 1}, {1, 1, 1}, {2, 1, 1}, {2, 1, 2}};
        int[][] lays = {{1, NONE}, {0, 1}, {0, NONE}, {1, 1}, {1, NONE}};
        for (int i = 0; i <= lays.length; i++) {
            for (int what = 0; what < 3; what++) {
                Checks.due(x, "sorts " + what + " behind " + i, x.sorts(what), due[i][what], 0);
            }
            for (int what : new int[] {MIN, -1, 3, MAX}) {
                Checks.due(x, "sorts " + what, x.sorts(what), NONE, 5);
            }
            if (i < lays.length) {
                x.leave();
                x.lay(lays[i][0], lays[i][1], NONE, NONE);
            }
        }
        x.doubt(1);
        Checks.due(x, "taken", x.sorts(0) + x.sorts(1) + x.sorts(2), 0, 0);
    }

    private static void liar() {
        Checks.says(49, "The PLAYER whose HONEST is the least, of several the first (8: no PLAYERS).");
        CheatHeap x = new CheatHeap();
        Checks.due(x, "no PLAYERS", x.liar(), NONE, 8);
        x = Checks.withTable("kinds 2 each 8;player a;");
        Checks.due(x, "one alone", x.liar(), 0, 0);
        x = Checks.withTable("kinds 2 each 8;" + ABC + "hand a 3 of 0;hand a 3 of 1;hand b 2 of 0;hand b 2 of 1;hand c 2 of 0;hand c 2 of 1;");
        Checks.due(x, "all alike", x.liar(), 0, 0);
        x.lay(0, NONE, NONE, NONE);
        x.doubt(1);
        Checks.due(x, "2 by 3, then 1 by 2 twice", x.liar(), 1, 0);
        x.lay(0, NONE, NONE, NONE);
        x.doubt(2);
        Checks.due(x, "2 by 4 is as 1 by 2", x.liar(), 0, 0);
        x.lay(1, NONE, NONE, NONE);
        x.doubt(1);
        Checks.due(x, "c: 1 by 3", x.liar(), 2, 0);
        x.lay(0, NONE, NONE, NONE);
        x.doubt(0);
        Checks.due(x, "b: 1 by 3, too, and ahead", x.liar(), 1, 0);
    }
}
