/** ROUNDS as texts: promises 11 and 12. In a text that is spoiled a ^ stands ahead of the FAULT's place. */
final class RoundTextEdges {
    private static final int NONE = CheatHeap.NONE;
    private static final String TABLE = "kinds 2 each 4;player a;player abcdefgh;";

    private RoundTextEdges() {
    }

    static void run() {
        lengths();
        noneAtFirst();
        steps();
        tests();
        comparisons();
        names();
        numbers();
        ends();
        thirtySteps();
        withinThree();
        theFirstFault();
        everyLetter();
        anOldRound();
        eachAnew();
    }

    private static CheatHeap taken(String text, int steps) {
        CheatHeap x = Checks.withTable(TABLE);
        Checks.due(x, text, Checks.round(x, text), steps, 0);
        Checks.due("no fault of " + text, x.fault(0), 0);
        Checks.due("no place in " + text, x.fault(1), NONE);
        return x;
    }

    private static void spoiled(int fault, String marked) {
        int place = marked.indexOf('^');
        String text = marked.replace("^", "");
        CheatHeap x = Checks.withTable(TABLE);
        Checks.due(x, text, Checks.round(x, text), NONE, 10);
        Checks.due("fault of " + text, x.fault(0), fault);
        Checks.due("place of " + text, x.fault(1), place);
    }

    private static void lengths() {
        Checks.says(0, "A ROUND is a TEXT of at most 300 bytes, of such TOKENS");
        CheatHeap x = taken("turn;" + " ".repeat(290) + "stop;", 2);
        Checks.due(x, "301", Checks.round(x, "turn;" + " ".repeat(291) + "stop;"), NONE, 5);
        spoiled(2, "turn;" + " ".repeat(291) + "stop^");
        spoiled(2, " ".repeat(299) + "^;");
        taken(" ".repeat(300), 0);
        taken("", 0);
        taken(" \n", 0);
        taken("\nturn\n;\nloop\n2;lies a\n3 ; end\n;\n", 3);
        taken("loop2;lies a3;end;", 2);
        spoiled(1, "turn^\t;");
        spoiled(1, "^Turn;");
        spoiled(1, "turn;^%");
        spoiled(1, "loop ^00002;end;");
        spoiled(2, "^3;");
        spoiled(2, "^;");
        spoiled(2, "turn;^;");
    }

    private static void noneAtFirst() {
        Checks.says(0, "(none at first)");
        CheatHeap x = Checks.withTable(TABLE);
        Checks.due(x, "none", x.play(0), NONE, 8);
        Checks.due(x, "none", x.wins(0, 0, 1), false, 8);
        Checks.due(x, "none", x.left(0, 0, 1), false, 8);
        Checks.round(x, "turn");
        Checks.due(x, "none behind a FAULT", x.play(0), NONE, 8);
        Checks.due(x, "an empty one", Checks.round(x, ""), 0, 0);
        Checks.due(x, "is one", x.play(0), 0, 0);
        Checks.due(x, "is one", x.wins(0, 0, 1), true, 0);
    }

    private static void steps() {
        Checks.says(0, "ROUND: {STEP}. STEP: turn ; or lies NAME NUMBER ; or doubts NAME NUMBER ; or when TEST ; {STEP} end ;"
            + " or loop NUMBER ; {STEP} end ; or stop ;");
        taken("turn;", 1);
        taken("lies a 0;", 1);
        taken("doubts abcdefgh 16;", 1);
        taken("when won;end;", 1);
        taken("loop 1;end;", 1);
        taken("stop;stop;", 2);
        spoiled(2, "turn^");
        spoiled(2, "turn ^turn;");
        spoiled(2, "turn ^1;");
        spoiled(2, "lies^;");
        spoiled(2, "lies a^;");
        spoiled(2, "lies ^3;");
        spoiled(2, "lies a 3^");
        spoiled(2, "lies a 3 ^doubts a 3;");
        spoiled(2, "doubts^");
        spoiled(2, "doubts a^");
        spoiled(2, "doubts a ^a;");
        spoiled(2, "stop^");
        spoiled(2, "stop ^end;");
        spoiled(2, "loop^;end;");
        spoiled(2, "loop ^a;end;");
        spoiled(2, "loop 3 ^turn;end;");
        for (String word : new String[] {"turns", "tur", "kinds", "player", "hand", "law", "most", "cards", "won", "a", "ends"}) {
            spoiled(2, "^" + word + ";");
        }
    }

    private static void tests() {
        Checks.says(0, "TEST: cards NAME COMPARES NUMBER, or heap COMPARES NUMBER, or shown NAME COMPARES NUMBER, or won.");
        taken("when cards a<1;end;when heap>0;end;when shown a=0;end;when won;end;", 4);
        spoiled(2, "when^;end;");
        spoiled(2, "when ^turn;end;");
        spoiled(2, "when ^a > 1;end;");
        spoiled(2, "when ^3;end;");
        spoiled(2, "when won ^= 1;end;");
        spoiled(2, "when won ^a;end;");
        spoiled(2, "when cards ^> 1;end;");
        spoiled(2, "when cards ^3;end;");
        spoiled(2, "when cards a ^3;end;");
        spoiled(2, "when cards a >^;end;");
        spoiled(2, "when cards a > 3 ^turn;end;");
        spoiled(2, "when heap ^a > 3;end;");
        spoiled(2, "when heap ^3;end;");
        spoiled(2, "when heap^");
        spoiled(2, "when heap <^");
        spoiled(2, "when shown ^= 1;end;");
        spoiled(2, "when shown a^;end;");
        spoiled(2, "when shown a =^;end;");
    }

    private static void comparisons() {
        Checks.says(0, "COMPARES: < or > or =");
        for (String sign : new String[] {"<", ">", "="}) {
            taken("when heap" + sign + "3;end;", 1);
            taken("when cards a " + sign + " 3;end;", 1);
            spoiled(2, "when heap " + sign + "^" + sign + "3;end;");
            spoiled(2, "when heap " + sign + " ^;end;");
        }
        spoiled(2, "when heap ^;3;end;");
        spoiled(1, "when heap ^!3;end;");
    }

    private static void names() {
        Checks.says(0, "3 a NAME that is no PLAYER.");
        for (String ahead : new String[] {"lies ", "doubts ", "when cards ", "when shown "}) {
            spoiled(3, ahead + "^b 1;end;");
            spoiled(3, ahead + "^aa 1;end;");
            spoiled(3, ahead + "^abcdefg 1;end;");
            spoiled(3, ahead + "^bbcdefgh 1;end;");
            spoiled(2, ahead + "^abcdefghi 1;end;");
            spoiled(2, ahead + "^when 1;end;");
            spoiled(2, ahead + "^won 1;end;");
            spoiled(2, ahead + "^kinds 1;end;");
        }
        CheatHeap x = new CheatHeap();
        Checks.due(x, "no PLAYERS at all", Checks.round(x, "lies a 1;"), NONE, 10);
        Checks.due("fault", x.fault(0), 3);
        Checks.due("place", x.fault(1), 5);
        Checks.due(x, "no NAME", Checks.round(x, "turn;stop;"), 2, 0);
    }

    private static void numbers() {
        Checks.says(0, "4 a NUMBER that can't be.");
        Checks.says(0, "lies, doubts: 0 to 16. when cards: 0 to 80; heap: 0 to 80; shown: LAYINGS of a PLAYER that were SHOWN (0 to 999);"
            + " won: somebody has. loop n (1 to 99): as often.");
        String[] ahead = {"lies a ", "doubts a ", "when cards a < ", "when heap > ", "when shown a = ", "loop "};
        int[] least = {0, 0, 0, 0, 0, 1};
        int[] most = {16, 16, 80, 80, 999, 99};
        for (int i = 0; i < ahead.length; i++) {
            String behind = i < 2 ? ";" : ";end;";
            taken(ahead[i] + least[i] + behind, 1);
            taken(ahead[i] + most[i] + behind, 1);
            spoiled(4, ahead[i] + "^" + (most[i] + 1) + behind);
            spoiled(4, ahead[i] + "^9999" + behind);
            spoiled(1, ahead[i] + "^10000" + behind);
            spoiled(1, ahead[i] + "^00001" + behind);
        }
        taken("lies a 0016;", 1);
        spoiled(4, "loop ^0;end;");
        spoiled(4, "loop ^0000;end;");
    }

    private static void ends() {
        Checks.says(0, "COMPARES: < or > or = FAULTS: 1, 2 as above (an end without a beginning; the text's end ahead of an end: 2).");
        spoiled(2, "^end;");
        spoiled(2, "turn;^end;");
        spoiled(2, "loop 1;end;^end;");
        spoiled(2, "when won;loop 1;end;end;^end;");
        spoiled(2, "loop 1;^");
        spoiled(2, "loop 1; \n^");
        spoiled(2, "loop 1;turn;^");
        spoiled(2, "loop 1;end^");
        spoiled(2, "loop 1;end ^end;");
        spoiled(2, "loop 1;when won;end;^");
        spoiled(2, "when won;^");
        spoiled(2, "when won;turn;stop; ^");
        taken("loop 1;when won;loop 1;end;end;end;", 3);
    }

    private static void thirtySteps() {
        Checks.says(0, "6 a 31st STEP (at its WORD; end is none).");
        taken("turn;".repeat(30), 30);
        spoiled(6, "turn;".repeat(30) + "^turn;");
        spoiled(6, "turn;".repeat(30) + " \n^stop");
        spoiled(6, "turn;".repeat(30) + "^lies b 99;");
        spoiled(6, "turn;".repeat(30) + "^when");
        spoiled(2, "turn;".repeat(30) + "^end;");
        spoiled(2, "turn;".repeat(30) + "^turns;");
        spoiled(2, "turn;".repeat(30) + "^;");
        spoiled(1, "turn;".repeat(30) + "^Turn;");
        taken("loop1;end;".repeat(30), 30);
        spoiled(6, "turn;".repeat(29) + "loop 1;^turn;end;");
        taken("turn;".repeat(29) + "loop 1;end;", 30);
        taken("loop 1;" + "turn;".repeat(29) + "end;", 30);
        spoiled(6, "loop 1;" + "turn;".repeat(29) + "^turn;end;");
    }

    private static void withinThree() {
        Checks.says(0, "7 a when, loop within three others (at its WORD).");
        String[] heads = {"loop 2;", "when won;"};
        for (int i = 0; i < 16; i++) {
            StringBuilder text = new StringBuilder();
            for (int bit = 0; bit < 3; bit++) {
                text.append(heads[i >> bit & 1]);
            }
            taken(text + "turn;end;end;end;", 4);
            taken(text + "end;" + heads[i >> 3] + "end;end;end;", 4);
            taken(text + "end;end;end;" + text + "end;end;end;", 6);
            spoiled(7, text + "^" + heads[i >> 3] + "end;end;end;end;");
            spoiled(7, text + "turn; ^" + heads[i >> 3]);
            spoiled(7, text + "end;" + heads[i >> 3] + "^when");
        }
        spoiled(7, "loop 1;loop 1;loop 1;^loop 0;");
        spoiled(7, "loop 1;loop 1;loop 1;^when;");
        spoiled(2, "loop 1;loop 1;loop 1;^whens;");
        taken("loop 1;end;".repeat(4) + "loop 1;loop 1;loop 1;end;end;end;", 7);
    }

    private static void theFirstFault() {
        Checks.says(0, "FAULTS, the first along the text (of one TOKEN the least kind):");
        spoiled(6, "turn;".repeat(27) + "loop 1;loop 1;loop 1;^loop 1;");
        spoiled(6, "turn;".repeat(27) + "loop 1;loop 1;loop 1;^when b;");
        spoiled(7, "turn;".repeat(26) + "loop 1;loop 1;loop 1;^loop 1;");
        spoiled(3, "lies ^b 17;%");
        spoiled(4, "lies a ^17;lies b 1;");
        spoiled(2, "^end;lies b 17;");
        spoiled(4, "loop ^100;");
    }

    private static void anOldRound() {
        Checks.says(0, "there is no ROUND");
        CheatHeap x = taken("turn;turn;turn;", 3);
        Checks.due(x, "a TABLE with a FAULT", Checks.table(x, "kinds"), NONE, 10);
        Checks.due(x, "the ROUND stays", x.play(0), 3, 0);
        Checks.due(x, "a TABLE", Checks.table(x, TABLE), 2, 0);
        Checks.due(x, "no ROUND", x.play(0), NONE, 8);
        Checks.due(x, "played() tells of the latest", x.played(0), 3, 0);
    }

    private static void everyLetter() {
        Checks.says(0, "FAULTS: 1, 2 as above");
        String told = "turn;lies a 1;doubts a 1;when cards a<1;end;when heap>1;end;when shown a=1;end;when won;end;loop 1;end;stop;";
        taken(told, 9);
        for (int i = 0; i < told.length(); i++) {
            char c = told.charAt(i);
            if (c >= 'a' && c <= 'z' && !told.startsWith(" a", i - 1)) {
                String text = told.substring(0, i) + 'x' + told.substring(i + 1);
                int begin = Math.max(told.lastIndexOf(' ', i), told.lastIndexOf(';', i)) + 1;
                CheatHeap x = Checks.withTable(TABLE);
                Checks.due(x, text, Checks.round(x, text), NONE, 10);
                Checks.due("fault of " + text, x.fault(0), 2);
                Checks.due("place of " + text, x.fault(1), begin);
            }
        }
    }

    private static void eachAnew() {
        Checks.says(0, "A ROUND is a TEXT");
        CheatHeap x = Checks.withTable(TABLE);
        for (int i = 0; i < 3; i++) {
            Checks.due(x, "three are begun", Checks.round(x, "loop 1;loop 1;loop 1;"), NONE, 10);
            Checks.due(x, "none is begun", Checks.round(x, "end;"), NONE, 10);
            Checks.due("at its first", x.fault(1), 0);
            Checks.due(x, "three are begun", Checks.round(x, "loop 1;loop 1;loop 1;"), NONE, 10);
            Checks.due(x, "three anew", Checks.round(x, "loop 1;loop 1;loop 1;end;end;end;"), 3, 0);
            Checks.due(x, "thirty", Checks.round(x, "turn;".repeat(30)), 30, 0);
            Checks.due(x, "thirty anew", Checks.round(x, "stop;".repeat(30)), 30, 0);
            Checks.due(x, "one", Checks.round(x, "lies a 3;"), 1, 0);
            Checks.due(x, "one alone", x.play(0), 1, 0);
        }
    }
}
