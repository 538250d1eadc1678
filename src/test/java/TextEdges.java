import java.util.Arrays;

/** The tape, TOKENS and TABLES: promises 9 to 12. In a text that is spoiled a ^ stands ahead of the FAULT's place. */
final class TextEdges {
    private static final int NONE = CheatHeap.NONE;
    private static final int MIN = Integer.MIN_VALUE;
    private static final int MAX = Integer.MAX_VALUE;
    private static final int BLANKS = 0x20202020;
    private static final String HEAD = "kinds 3 each 2;";
    private static final String[] RESERVED = {"kinds", "each", "law", "most", "player", "lies", "doubts", "hand", "of", "up",
        "down", "same", "turn", "when", "cards", "heap", "won", "shown", "loop", "end", "stop"};

    private static final String CUT_SHORT = "kind|kin|ki|k|eac|ea|e|la|l|u|mos|mo|m|playe|play|pla|pl|p|lie|li|doubt|doub|dou|do|d|han|ha|h|o";

    private TextEdges() {
    }

    static void run() {
        theTape();
        theTapesBytes();
        theTapeBehindATable();
        theTapeBehindARound();
        tablesAnswer();
        roundsAnswer();
        faults();
        lengths();
        blanks();
        tokens();
        numbers();
        heads();
        parts();
        names();
        kindsAndEach();
        lawAndMost();
        players();
        hands();
        faultOne();
        faultTwo();
        faultThree();
        faultFour();
        faultFive();
        faultSix();
        theFirstFault();
        everyLetter();
        anotherTable();
        nothingOfTheOldOne();
    }

    private static CheatHeap taken(String text, int players) {
        CheatHeap x = new CheatHeap();
        Checks.due(x, text, Checks.table(x, text), players, 0);
        Checks.due("no fault of " + text, x.fault(0), 0);
        Checks.due("no place in " + text, x.fault(1), NONE);
        return x;
    }

    private static void spoiled(int fault, String marked) {
        spoiled(fault, marked.indexOf('^'), marked.replace("^", ""));
    }

    private static void spoiled(int fault, int place, String text) {
        CheatHeap x = new CheatHeap();
        Checks.due(x, text, Checks.table(x, text), NONE, 10);
        Checks.due("fault of " + text, x.fault(0), fault);
        Checks.due("place of " + text, x.fault(1), place);
    }

    private static void theTape() {
        Checks.says(9, "how many it has; NONE if there would be more than 900.");
        CheatHeap x = new CheatHeap();
        Checks.feed(x, "kinds 2 each 1;player a;player b;player");
        for (int i = 3; i <= 44; i++) {
            Checks.due("feed", x.feed(BLANKS, BLANKS, BLANKS, BLANKS, BLANKS), 20 * i);
        }
        Checks.due("900", x.feed(BLANKS, BLANKS, BLANKS, BLANKS, 0x2020633B), 900);
        Checks.due("920", x.feed(0, 0, 0, 0, 0), NONE);
        Checks.due("and again", x.feed(MIN, MAX, 0, 0, -1), NONE);
        Checks.due(x, "what is refused does not come", x.table(900), 3, 0);
    }

    private static void theTapesBytes() {
        Checks.says(9, "Twenty bytes come behind those on the tape, the highest of each int first");
        CheatHeap x = new CheatHeap();
        Checks.due("kinds 8 each 2 ;", x.feed(0x6B696E64, 0x73203820, 0x65616368, 0x2032203B, BLANKS), 20);
        Checks.due("player z; hand z 2 of", x.feed(0x706C6179, 0x6572207A, 0x3B68616E, 0x64207A20, 0x32206F66), 40);
        Checks.due("7;law down;", x.feed(0x20373B6C, 0x61772064, 0x6F776E3B, BLANKS, BLANKS), 60);
        Checks.due(x, "table", x.table(60), 1, 0);
        Checks.due(x, "hand", x.hand(0, 7), 2, 0);
        Checks.due(x, "law", x.many(3), 1, 0);
        x.feed(BLANKS, 0x20202080, 0, 0, 0);
        Checks.due(x, "a byte above 127", x.table(8), NONE, 10);
        Checks.due("no TOKEN begins so", x.fault(0), 1);
        Checks.due("at the eighth", x.fault(1), 7);
        x.feed(-1, -1, -1, -1, -1);
        Checks.due(x, "255", x.table(20), NONE, 10);
        Checks.due("no TOKEN begins so", x.fault(0), 1);
    }

    private static void theTapeBehindATable() {
        Checks.says(10, "The first n bytes of the tape (which is empty then, but for 5) are the TABLE");
        CheatHeap x = new CheatHeap();
        Checks.feed(x, HEAD + "player a;player b;");
        for (int n : new int[] {MIN, -1, 41, MAX}) {
            Checks.due(x, n + " of 40", x.table(n), NONE, 5);
        }
        Checks.due(x, "the first 24, the tape is as it was", x.table(24), 1, 0);
        Checks.due(x, "the rest is gone", x.table(1), NONE, 5);
        Checks.due("the tape is empty", x.feed(0, 0, 0, 0, 0), 20);
        Checks.due(x, "10", x.table(20), NONE, 10);
        Checks.due("empty behind 10, too", x.feed(0, 0, 0, 0, 0), 20);
        Checks.due(x, "none of twenty", x.table(0), NONE, 10);
        Checks.due("empty behind that", x.feed(BLANKS, 0, 0, 0, 0), 20);
        Checks.due(x, "all twenty", x.table(20), NONE, 10);
        Checks.due("at the first that is no blank", x.fault(1), 4);
    }

    private static void theTapeBehindARound() {
        Checks.says(11, "(5: above 300, too; 10)");
        CheatHeap x = new CheatHeap();
        Checks.feed(x, "turn;" + " ".repeat(300) + "stop;");
        for (int n : new int[] {MIN, -1, 301, 320, 321, MAX}) {
            Checks.due(x, n + " of 320", x.round(n), NONE, 5);
        }
        Checks.due(x, "300", x.round(300), 1, 0);
        Checks.due(x, "the tape is empty", x.round(1), NONE, 5);
        Checks.feed(x, "turn;turn;");
        Checks.due(x, "21 of 20", x.round(21), NONE, 5);
        Checks.due(x, "9", x.round(9), NONE, 10);
        Checks.due("empty behind 10, too", x.feed(0, 0, 0, 0, 0), 20);
        Checks.due(x, "none of twenty", x.round(0), 0, 0);
        Checks.due("empty behind that", x.feed(0, 0, 0, 0, 0), 20);
    }

    private static void tablesAnswer() {
        Checks.says(10, "are the TABLE: how many PLAYERS (5; 10: the old one stays).");
        taken(HEAD, 0);
        taken(HEAD + "player a;", 1);
        CheatHeap x = taken("kinds 4 each 3;player a;player b;hand a 2 of 3;hand b 1 of 0;", 2);
        Checks.round(x, "turn;");
        x.lay(3, 3, NONE, NONE);
        long[] before = Checks.look(x);
        Checks.due(x, "5", x.table(1), NONE, 5);
        Checks.due("nothing changed", Arrays.equals(before, Checks.look(x)), true);
        Checks.due(x, "10 at the very end", Checks.table(x, "kinds 9 each 8;law down;most 1;player c;player b;hand c 8 of 8"), NONE, 10);
        Checks.due(x, "KINDS", x.many(0), 4, 0);
        Checks.due(x, "the LAW", x.many(3), 0, 0);
        Checks.due(x, "MOST", x.many(4), 4, 0);
        Checks.due(x, "still open", x.many(8), 1, 0);
        Checks.due(x, "the HEAP", x.many(7), 2, 0);
        Checks.due(x, "the game", x.inGame(3), 2, 0);
        Checks.due(x, "the NAMES, too", Checks.round(x, "lies b 3;doubts a 4;"), 2, 0);
        Checks.due(x, "the NAMES, too", Checks.round(x, "lies c 3;"), NONE, 10);
        Checks.due(x, "the ROUND", x.play(0), 2, 0);
    }

    private static void roundsAnswer() {
        Checks.says(11, "Likewise the ROUND: how many STEPS (5: above 300, too; 10).");
        CheatHeap x = taken(HEAD + "player a;", 1);
        Checks.due(x, "ends are none", Checks.round(x, "loop 3;lies a 5;end;stop;"), 3, 0);
        Checks.due(x, "likewise the old one stays", Checks.round(x, "lies a 7;lies a 7;doubts a 7;loop 2;turn;end"), NONE, 10);
        Checks.due(x, "5", Checks.round(x, " ".repeat(301)), NONE, 5);
        Checks.due(x, "loop, three, stop", x.play(0), 5, 0);
        Checks.due(x, "lies", x.player(0, 0), 5, 0);
        Checks.due(x, "in place of that ahead", x.round(0), 0, 0);
        Checks.due(x, "without a STEP", x.play(0), 0, 0);
    }

    private static void faults() {
        Checks.says(12, "Of the latest of these with STATUS 0 or 10, what 0: the FAULT (0 without one), 1: its place (NONE without).");
        CheatHeap x = new CheatHeap();
        Checks.says(12, "NONE for others, and ahead of any.");
        Checks.due("ahead of any", x.fault(0), NONE);
        Checks.due("ahead of any", x.fault(1), NONE);
        x.table(1);
        x.round(301);
        Checks.due("5 is none", x.fault(0), NONE);
        Checks.due(x, "a FAULT", Checks.table(x, "kinds 99 each"), NONE, 10);
        for (int what : new int[] {MIN, -1, 2, MAX}) {
            Checks.due("fault " + what, x.fault(what), NONE);
        }
        Checks.due("what 0", x.fault(0), 4);
        Checks.due("what 1", x.fault(1), 6);
        Checks.due("it tells it again", x.fault(0), 4);
        x.table(5);
        x.round(-1);
        x.lay(9, 9, 9, 9);
        Checks.due("5 and other calls leave it", x.fault(0), 4);
        Checks.due("5 and other calls leave it", x.fault(1), 6);
        Checks.due(x, "a good ROUND", x.round(0), 0, 0);
        Checks.due("0 without one", x.fault(0), 0);
        Checks.due("NONE without", x.fault(1), NONE);
        Checks.due(x, "a bad ROUND", Checks.round(x, "turn;;"), NONE, 10);
        Checks.due("fault", x.fault(0), 2);
        Checks.due("place", x.fault(1), 5);
        x.mark();
        Checks.table(x, HEAD);
        x.back();
        Checks.due("the latest was good", x.fault(0), 0);
        for (int i = 0; i < 2; i++) {
            Checks.due(x, "bad", i == 0 ? Checks.table(x, "kinds") : Checks.round(x, "turn"), NONE, 10);
            Checks.due("a place", x.fault(1), i == 0 ? 5 : 4);
            Checks.due(x, "good", i == 0 ? Checks.table(x, HEAD) : Checks.round(x, "turn;"), i, 0);
            Checks.due("none", x.fault(0), 0);
            Checks.due("no place", x.fault(1), NONE);
        }
    }

    private static void lengths() {
        Checks.says(0, "A TABLE is a TEXT of at most 900 bytes.");
        CheatHeap x = taken(HEAD + " ".repeat(876) + "player a;", 1);
        Checks.due(x, "900 bytes", x.many(2), 1, 0);
        spoiled(2, HEAD + " ".repeat(876) + "player aa^");
        spoiled(2, HEAD + " ".repeat(876) + "player a ^");
        spoiled(2, HEAD + " ".repeat(884) + "^;");
        spoiled(2, "^");
        spoiled(2, " ^");
        spoiled(2, "\n ^");
        spoiled(2, " ".repeat(900) + "^");
    }

    private static void blanks() {
        Checks.says(0, "TOKENS, as long as they go, between them blanks (10, 32)");
        taken("\n kinds\n2 \n\neach  1\n;\nplayer\na\n;\n", 1);
        for (int b = 0; b < 256; b++) {
            String text = "kinds" + (char) b + "2 each 1;";
            boolean isBlank = b == 10 || b == 32;
            boolean isDigit = b >= '0' && b <= '9';
            if (isBlank) {
                taken(text, 0);
            } else if (b >= 'a' && b <= 'z') {
                spoiled(2, "^" + text);
            } else if (isDigit) {
                // 02 is 2, all else is above 10
                CheatHeap x = new CheatHeap();
                Checks.due(x, text, Checks.table(x, text), b == '0' ? 0 : NONE, b == '0' ? 0 : 10);
            } else {
                boolean isSign = b == ';' || b == '<' || b == '>' || b == '=';
                spoiled(isSign ? 2 : 1, 5, text);
            }
        }
    }

    private static void tokens() {
        Checks.says(0, "TOKENS, as long as they go");
        taken("kinds2each1;law up;most4;player a lies3doubts16;hand a1of0;", 1);
        spoiled(2, "^kindseach 2 each 1;");
        spoiled(2, "^ki nds 2 each 1;");
        spoiled(4, "kinds ^1 0 each 1;");
        spoiled(2, HEAD + "^playera;");
        spoiled(2, HEAD + "^lawup;");
        spoiled(2, HEAD + "player a lies 1 ^6;");
        Checks.says(0, "WORDS (small letters), NUMBERS (1 to 4 digits), SIGNS ; < > =");
        taken(HEAD + "player a;player z;player az;", 3);
        for (String sign : new String[] {"`", "{", "@", "[", "A", "Z", "/", ":", "?", "_", "-", "+", ".", ",", "!", "(", "\0", "\u007f", "\u00e1"}) {
            spoiled(1, HEAD + "^" + sign);
            spoiled(1, HEAD + "player a^" + sign + ";");
            spoiled(1, HEAD + "player a lies 1^" + sign + ";");
            spoiled(1, HEAD + "player ^" + sign + ";");
        }
        for (String sign : new String[] {"<", ">", "=", ";"}) {
            spoiled(2, HEAD + "^" + sign);
            spoiled(2, HEAD + "player ^" + sign + ";");
        }
    }

    private static void numbers() {
        Checks.says(0, "NUMBERS (1 to 4 digits)");
        CheatHeap x = taken("kinds 0010 each 08;most 004;player a lies 0016 doubts 0;hand a 0008 of 0009;", 1);
        Checks.due(x, "KINDS", x.many(0), 10, 0);
        Checks.due(x, "EACH", x.many(1), 8, 0);
        Checks.due(x, "MOST", x.many(4), 4, 0);
        Checks.due(x, "LIES", x.player(0, 0), 16, 0);
        Checks.due(x, "HAND", x.hand(0, 9), 8, 0);
        spoiled(4, "kinds ^9999 each 1;");
        spoiled(1, "kinds ^10000 each 1;");
        spoiled(1, "kinds ^00002 each 1;");
        spoiled(1, "kinds ^" + "0".repeat(300) + "2 each 1;");
        spoiled(1, "kinds ^4294967298 each 1;");
        spoiled(4, "kinds ^0 each 1;");
    }

    private static void heads() {
        Checks.says(0, "TABLE: kinds NUMBER each NUMBER ; {PART}.");
        spoiled(2, "^each 1 kinds 2;");
        spoiled(2, "^law up;kinds 2 each 1;");
        spoiled(2, "^;");
        spoiled(2, "^2");
        spoiled(2, "kinds^");
        spoiled(2, "kinds ^;");
        spoiled(2, "kinds ^each 1;");
        spoiled(2, "kinds 2^");
        spoiled(2, "kinds 2^;");
        spoiled(2, "kinds 2 ^2;");
        spoiled(2, "kinds 2 ^law;");
        spoiled(2, "kinds 2 each^");
        spoiled(2, "kinds 2 each ^;");
        spoiled(2, "kinds 2 each ^law;");
        spoiled(2, "kinds 2 each 1^");
        spoiled(2, "kinds 2 each 1 ^law up;");
        spoiled(2, "kinds 2 each 1;^kinds 2 each 1;");
        spoiled(2, "kinds 2 each 1;^;");
    }

    private static void parts() {
        Checks.says(0, "PART: law LAW ; or most NUMBER ; or player NAME [lies NUMBER] [doubts NUMBER] ; or hand NAME NUMBER of NUMBER ; LAW: up, or down, or same.");
        Checks.says(0, "({ } any number of times, [ ] perhaps.)");
        taken(HEAD, 0);
        taken(HEAD + "player a;most 1;hand a 1 of 0;law same;player b;hand b 1 of 0;hand a 1 of 1;", 2);
        taken(HEAD + "player a lies 1;player b doubts 1;player c lies 1 doubts 1;player d;", 4);
        spoiled(2, HEAD + "player a doubts 1 ^lies 1;");
        spoiled(2, HEAD + "player a lies 1 ^lies 1;");
        spoiled(2, HEAD + "player a doubts 1 ^doubts 1;");
        spoiled(2, HEAD + "player a ^3;");
        spoiled(2, HEAD + "player a lies^;");
        spoiled(2, HEAD + "player a lies ^doubts 3;");
        spoiled(2, HEAD + "player a doubts^;");
        spoiled(2, HEAD + "player a lies 1 ^");
        spoiled(2, HEAD + "player a ^player b;");
        spoiled(2, HEAD + "player^;");
        spoiled(2, HEAD + "player ^1;");
        spoiled(2, HEAD + "law^;");
        spoiled(2, HEAD + "law ^left;");
        spoiled(2, HEAD + "law ^1;");
        spoiled(2, HEAD + "law up^");
        spoiled(2, HEAD + "law up ^down;");
        spoiled(2, HEAD + "most^;");
        spoiled(2, HEAD + "most 1^");
        spoiled(2, HEAD + "most 1 ^1;");
        spoiled(2, HEAD + "player a;hand a ^of 0;");
        spoiled(2, HEAD + "player a;hand a 1 ^0;");
        spoiled(2, HEAD + "player a;hand a 1 of^;");
        spoiled(2, HEAD + "player a;hand a 1 of 0^");
        spoiled(2, HEAD + "player a;hand ^1 of 0;");
        for (String word : new String[] {"up", "of", "lies", "turn", "stop", "cards", "a", "hands"}) {
            spoiled(2, HEAD + "^" + word + " 1;");
        }
    }

    private static void names() {
        Checks.says(0, "NAME: a WORD of 1 to 8 letters that is none of kinds, each, law, most, player, lies, doubts, hand, of, up, down, same,"
            + " turn, when, cards, heap, won, shown, loop, end, stop.");
        for (String word : RESERVED) {
            spoiled(2, HEAD + "player ^" + word + ";");
            spoiled(2, HEAD + "player a;hand ^" + word + " 1 of 0;");
            taken(HEAD + "player " + word + "s;hand " + word + "s 1 of 0;", 1);
            taken(HEAD + "player x" + word + ";", 1);
            if (word.length() > 2) {
                taken(HEAD + "player " + word.substring(0, 2) + "x;player " + word.substring(1) + "q;", 2);
            }
        }
        taken(HEAD + "player o;player e;player kind;player ends;player u;player sto;", 6);
        taken(HEAD + "player a;player abcdefgh;hand abcdefgh 1 of 0;", 2);
        spoiled(2, HEAD + "player ^abcdefghi;");
        spoiled(2, HEAD + "player ^" + "a".repeat(500) + ";");
        Checks.says(0, "No two PLAYERS have one NAME.");
        taken(HEAD + "player ann;player an;player anna;player bnn;player aan;player abn;", 6);
        taken(HEAD + "player abcdefgh;player abcdefgi;player abcdefg;player bbcdefgh;", 4);
        spoiled(3, HEAD + "player a;player b;player ^a;");
        spoiled(3, HEAD + "player a;player b;player ^b;");
        spoiled(3, HEAD + "player abcdefgh;player ^abcdefgh;");
    }

    private static void kindsAndEach() {
        Checks.says(0, "KINDS (2 to 10) are numbered from 0 on; of EACH there are so many cards (1 to 8).");
        for (int n = 0; n <= 12; n++) {
            boolean canBe = n >= 2 && n <= 10;
            if (canBe) {
                CheatHeap x = taken("kinds " + n + " each 1;player a;hand a 1 of 0;hand a 1 of " + (n - 1) + ";", 1);
                Checks.due(x, "KINDS", x.many(0), n, 0);
                Checks.due(x, "from 0 on", x.hand(0, 0), 1, 0);
                Checks.due(x, "the last", x.hand(0, n - 1), 1, 0);
                Checks.due(x, "no other", x.hand(0, n), NONE, 2);
                spoiled(4, "kinds " + n + " each 1;player a;hand a 1 of ^" + n + ";");
            } else {
                spoiled(4, "kinds ^" + n + " each 1;");
            }
        }
        for (int n = 0; n <= 10; n++) {
            if (n >= 1 && n <= 8) {
                CheatHeap x = taken("kinds 2 each " + n + ";player a;hand a " + n + " of 1;", 1);
                Checks.due(x, "EACH", x.many(1), n, 0);
                Checks.due(x, "all of them", x.inGame(1), n, 0);
                spoiled(n == 8 ? 4 : 5, "kinds 2 each " + n + ";player a;hand a " + (n == 8 ? "^9 of 1;" : n + 1 + " of ^1;"));
            } else {
                spoiled(4, "kinds 2 each ^" + n + ";");
            }
        }
    }

    private static void lawAndMost() {
        Checks.says(0, "LAW (UP without): by which KIND is said next. MOST cards of a LAYING (1 to 4; 4 without).");
        CheatHeap x = taken(HEAD, 0);
        Checks.due(x, "UP without", x.many(3), 0, 0);
        Checks.due(x, "4 without", x.many(4), 4, 0);
        String[] laws = {"up", "down", "same"};
        for (int law = 0; law < 3; law++) {
            x = taken(HEAD + "law " + laws[law] + ";", 0);
            Checks.due(x, "LAW", x.many(3), law, 0);
        }
        for (int most = 0; most <= 6; most++) {
            if (most >= 1 && most <= 4) {
                x = taken(HEAD + "most " + most + ";", 0);
                Checks.due(x, "MOST", x.many(4), most, 0);
            } else {
                spoiled(4, HEAD + "most ^" + most + ";");
            }
        }
        x = taken(HEAD + "law down;most 1;", 0);
        Checks.table(x, HEAD);
        Checks.due(x, "UP without, behind another", x.many(3), 0, 0);
        Checks.due(x, "4 without, behind another", x.many(4), 4, 0);
    }

    private static void players() {
        Checks.says(0, "PLAYERS, at most 6, in the order of their turns: LIES, DOUBTS by sixteenths (0 to 16 each; 0 without).");
        StringBuilder text = new StringBuilder("kinds 2 each 8;");
        for (int n = 0; n <= 6; n++) {
            CheatHeap x = taken(text.toString(), n);
            Checks.due(x, "PLAYERS", x.many(2), n, 0);
            Checks.due(x, "one more is none", x.player(n, 2), NONE, 2);
            text.append("player ").append((char) ('a' + n)).append(";hand ").append((char) ('a' + n)).append(" 1 of 0;");
        }
        CheatHeap x = taken("kinds 2 each 8;player a;player b;player c;hand c 2 of 0;hand a 2 of 0;hand b 2 of 0;", 3);
        for (int i = 0; i < 4; i++) {
            Checks.due(x, "in their order, not the HANDS'", x.many(6), i % 3, 0);
            x.lay(0, NONE, NONE, NONE);
            x.leave();
        }
        for (int n = 0; n <= 16; n++) {
            x = taken(HEAD + "player a;player b lies " + n + " doubts " + (16 - n) + ";", 2);
            Checks.due(x, "LIES", x.player(1, 0), n, 0);
            Checks.due(x, "DOUBTS", x.player(1, 1), 16 - n, 0);
            Checks.due(x, "0 without", x.player(0, 0), 0, 0);
            Checks.due(x, "0 without", x.player(0, 1), 0, 0);
        }
        x = taken(HEAD + "player a doubts 3;player b lies 4;", 2);
        Checks.due(x, "one alone", x.player(0, 0), 0, 0);
        Checks.due(x, "one alone", x.player(0, 1), 3, 0);
        Checks.due(x, "one alone", x.player(1, 0), 4, 0);
        Checks.due(x, "one alone", x.player(1, 1), 0, 0);
        spoiled(4, HEAD + "player a lies ^17;");
        spoiled(4, HEAD + "player a doubts ^17;");
        spoiled(4, HEAD + "player a lies 16 doubts ^17;");
    }

    private static void hands() {
        Checks.says(0, "HAND: so many cards (0 to 8) OF a KIND; all other cards are not in the game.");
        for (int n = 0; n <= 8; n++) {
            CheatHeap x = taken("kinds 3 each 8;player a;player b;hand b " + n + " of 2;", 2);
            Checks.due(x, "HAND", x.hand(1, 2), n, 0);
            Checks.due(x, "the other's", x.hand(0, 2), 0, 0);
            Checks.due(x, "no others", x.inGame(2), n, 0);
            Checks.due(x, "no others", x.inGame(1), 0, 0);
            Checks.due(x, "no others", x.unknown(0, NONE), n, 0);
        }
        spoiled(4, "kinds 3 each 8;player a;hand a ^9 of 0;");
        spoiled(4, "kinds 3 each 8;player a;hand a ^10 of 0;");
        CheatHeap x = taken("kinds 2 each 8;player a;player b;hand a 3 of 1;hand b 5 of 1;", 2);
        Checks.due(x, "all eight", x.inGame(1), 8, 0);
    }

    private static void faultOne() {
        Checks.says(0, "1 no TOKEN begins so (a NUMBER of 5 digits and more: at its first).");
        spoiled(1, "^Kinds 2 each 1;");
        spoiled(1, "kinds^S 2 each 1;");
        spoiled(2, "^kindS 2 each 1;");
        spoiled(1, "kinds ^-2 each 1;");
        spoiled(1, "kinds 2^.5 each 1;");
        spoiled(1, HEAD + "most ^00001;");
        spoiled(1, HEAD + "player a lies ^99999;");
        spoiled(1, HEAD + "player a;hand a 1 of ^12345;");
        spoiled(1, HEAD + "^12345;");
        spoiled(2, HEAD + "^1234;");
    }

    private static void faultTwo() {
        Checks.says(0, "2 it can't stand there (the end: the text's length; a WORD of 9 letters and more where a NAME must stand).");
        String whole = "kinds 2 each 1;law up;most 2;player a lies 1 doubts 2;hand a 1 of 0;";
        for (int n = 0; n <= whole.length(); n++) {
            String text = whole.substring(0, n);
            if (!text.endsWith(";")) {
                CheatHeap x = new CheatHeap();
                Checks.due(x, text, Checks.table(x, text), NONE, 10);
                Checks.due(text, x.fault(0), 2);
                // a WORD cut short can't stand where it begins; all else is ended too early
                Checks.due(text, x.fault(1), text.replaceAll("(^|[ ;])(" + CUT_SHORT + ")$", "$1").length());
            }
        }
        spoiled(2, HEAD + "player a;hand ^abcdefghi 1 of 0;");
        spoiled(2, HEAD + "player abcdefgh;hand ^abcdefghi 1 of 0;");
        spoiled(2, HEAD + "^abcdefghi;");
    }

    private static void faultThree() {
        Checks.says(0, "3 a new NAME that is taken; a NAME that is no PLAYER told ahead.");
        spoiled(3, HEAD + "player a;player ^a lies 99;");
        spoiled(3, HEAD + "hand ^a 1 of 0;player a;");
        spoiled(3, HEAD + "player a;hand ^b 1 of 0;player b;");
        spoiled(3, HEAD + "player ab;hand ^a 1 of 0;");
        spoiled(3, HEAD + "player a;hand ^ab 1 of 0;");
        CheatHeap x = taken(HEAD + "player a;player b;", 2);
        Checks.due(x, "a TABLE ahead told them", Checks.table(x, HEAD + "hand b 1 of 0;"), NONE, 10);
        Checks.due("no PLAYER told ahead", x.fault(0), 3);
        Checks.due(x, "nor are they taken", Checks.table(x, HEAD + "player b;player a;"), 2, 0);
    }

    private static void faultFour() {
        Checks.says(0, "4 a NUMBER that can't be (no such KIND, too).");
        spoiled(4, HEAD + "player a;hand a 1 of ^3;");
        spoiled(4, HEAD + "player a;hand a 0 of ^3;");
        spoiled(4, HEAD + "player a;hand a 1 of ^9999;");
        spoiled(4, "kinds 10 each 2;player a;hand a 1 of ^10;");
        spoiled(4, HEAD + "player a lies ^9999;");
    }

    private static void faultFive() {
        Checks.says(0, "5 law, most told already (at that WORD); a KIND told already of that HAND (at it); more cards of a KIND in all than there are"
            + " EACH (at the KIND).");
        spoiled(5, HEAD + "law up;player a;^law up;");
        spoiled(5, HEAD + "law up;^law");
        spoiled(5, HEAD + "most 4;player a;^most 4;");
        spoiled(5, HEAD + "most 4;^most 9;");
        taken(HEAD + "law up;most 4;", 0);
        spoiled(5, HEAD + "player a;hand a 1 of 2;hand a 1 of ^2;");
        spoiled(5, HEAD + "player a;hand a 0 of 2;hand a 0 of ^2;");
        spoiled(5, HEAD + "player a;player b;hand b 1 of 0;hand a 1 of 1;hand b 1 of ^0;");
        taken(HEAD + "player a;player b;hand a 1 of 0;hand b 1 of 0;hand a 1 of 1;hand b 0 of 1;", 2);
        spoiled(5, HEAD + "player a;hand a 3 of ^0;");
        spoiled(5, HEAD + "player a;hand a 8 of ^0;");
        spoiled(5, HEAD + "player a;player b;hand a 2 of 0;hand b 1 of ^0;");
        taken(HEAD + "player a;player b;hand a 2 of 0;hand b 0 of 0;hand b 2 of 1;", 2);
        spoiled(5, "kinds 10 each 8;player a;player b;hand a 8 of 9;hand b 1 of ^9;");
    }

    private static void faultSix() {
        Checks.says(0, "6 a seventh player (at that WORD).");
        String six = HEAD + "player a;player b;player c;player d;player e;player f;";
        taken(six + "hand f 1 of 0;law down;", 6);
        spoiled(6, six + "^player g;");
        spoiled(6, six + "^player a;");
        spoiled(6, six + "^player");
        spoiled(6, six + "law up;^player ;");
    }

    private static void theFirstFault() {
        Checks.says(0, "FAULTS, the first along the text (of one TOKEN the least kind):");
        spoiled(4, "kinds ^1 each 0;player a;player a;%");
        spoiled(2, "kinds 2 ^law %");
        spoiled(4, HEAD + "player a;hand a ^9 of 9;");
        spoiled(3, HEAD + "player a;hand ^b 9 of 9;");
        spoiled(5, HEAD + "law up;^law sideways;");
        spoiled(4, HEAD + "player a;hand a 1 of 0;hand a ^9 of 0;");
        spoiled(5, HEAD + "player a;hand a 2 of 0;hand a 2 of ^0;");
        spoiled(1, HEAD + "player a;hand a 1 of 0;hand a 1 of ^00000;");
        spoiled(1, HEAD + "player a;player ^Aa;");
        spoiled(2, HEAD + "player a;player aa ^a;");
        spoiled(2, HEAD + "player lie;player ^lies;");
    }

    private static void everyLetter() {
        Checks.says(0, "2 it can't stand there");
        String whole = "kinds 3 each 2;law up;most 2;player a lies 1 doubts 2;hand a 1 of 0;";
        for (String told : new String[] {whole, whole.replace("up", "down"), whole.replace("up", "same")}) {
            taken(told, 1);
            for (int i = 0; i < told.length(); i++) {
                char c = told.charAt(i);
                boolean isLetter = c >= 'a' && c <= 'z' && !told.startsWith(" a ", i - 1);
                if (isLetter) {
                    String text = told.substring(0, i) + (c == 'x' ? 'y' : 'x') + told.substring(i + 1);
                    int begin = Math.max(told.lastIndexOf(' ', i), told.lastIndexOf(';', i)) + 1;
                    spoiled(2, begin, text);
                    int behind = i;
                    while (told.charAt(behind) >= 'a' && told.charAt(behind) <= 'z') {
                        behind++;
                    }
                    spoiled(2, begin, told.substring(0, behind) + "x" + told.substring(behind));
                }
            }
        }
    }

    private static void anotherTable() {
        Checks.says(0, "A TABLE that is taken is there in place of that ahead; the HEAP is empty, KIND 0 is to be said, the TURN is PLAYER 0's,"
            + " nobody has WON, nothing was SHOWN, there is no ROUND.");
        String table = "kinds 3 each 4;law down;player a;player b;hand a 1 of 0;hand a 1 of 1;hand b 1 of 0;hand b 1 of 1;";
        CheatHeap x = taken(table, 2);
        x.lay(1, NONE, NONE, NONE);
        x.doubt(1);
        x.lay(0, NONE, NONE, NONE);
        x.leave();
        x.lay(0, NONE, NONE, NONE);
        x.leave();
        x.lay(1, NONE, NONE, NONE);
        x.leave();
        Checks.round(x, "turn;");
        Checks.due(x, "b has WON", x.many(9), 1, 0);
        Checks.due(x, "the HEAP", x.many(10), 3, 0);
        Checks.due(x, "a was SHOWN", x.player(0, 4), 1, 0);
        x.table(0);
        Checks.due(x, "a FAULT changes nothing", x.many(9), 1, 0);
        Checks.due(x, "the same", Checks.table(x, table), 2, 0);
        int[] due = {3, 4, 2, 1, 4, 0, 0, 0, 0, NONE, 0};
        for (int what = 0; what < due.length; what++) {
            Checks.due(x, "many " + what, x.many(what), due[what], due[what] == NONE ? 8 : 0);
        }
        Checks.due(x, "nothing SHOWN", x.player(0, 3), 0, 0);
        Checks.due(x, "nothing SHOWN", x.player(0, 4), 0, 0);
        Checks.due(x, "no card in the HEAP", x.player(1, 5), 0, 0);
        Checks.due(x, "none lies there", x.lies(0), 0, 0);
        Checks.due(x, "the HANDS", x.has(0), 3, 0);
        Checks.due(x, "all the cards", x.inGame(0), 2, 0);
        Checks.due(x, "no ROUND", x.play(0), NONE, 8);
        Checks.due(x, "it goes on", x.lay(0, 1, NONE, NONE), 2, 0);
        Checks.table(x, "kinds 2 each 1;");
        Checks.due(x, "nothing is OPEN", x.many(8), 0, 0);
        Checks.due(x, "no PLAYERS any more", x.many(6), NONE, 8);
        Checks.due(x, "no cards any more", x.inGame(0), 0, 0);
    }

    private static void nothingOfTheOldOne() {
        Checks.says(0, "A TABLE that is taken is there in place of that ahead");
        String old = "kinds 4 each 8;law down;most 2;player a lies 9 doubts 8;player b lies 7 doubts 6;hand a 3 of 0;hand a 2 of 3;hand b 1 of 0;";
        CheatHeap x = taken(old, 2);
        Checks.due(x, "a new one", Checks.table(x, "kinds 4 each 8;player b;player a;hand b 1 of 0;"), 2, 0);
        for (int p = 0; p < 2; p++) {
            for (int what = 0; what < 6; what++) {
                Checks.due(x, "player " + p + " " + what, x.player(p, what), what == 2 ? 1 - p : 0, 0);
            }
        }
        Checks.due(x, "one card in the game", x.inGame(0), 1, 0);
        Checks.due(x, "none of the last KIND", x.inGame(3), 0, 0);
        Checks.due(x, "b is the first", x.has(0), 1, 0);
        Checks.due(x, "a has none", x.has(1), 0, 0);
        Checks.due(x, "a FAULT at the very end", Checks.table(x, old.substring(0, old.length() - 1)), NONE, 10);
        Checks.due(x, "the old one again: law, most, KINDS of HANDS are told anew", Checks.table(x, old), 2, 0);
        Checks.due(x, "the cards", x.player(0, 2), 5, 0);
        Checks.due(x, "the same once more", Checks.table(x, old), 2, 0);
        Checks.due(x, "the cards", x.player(0, 2), 5, 0);
        Checks.due(x, "all of a KIND", x.inGame(0), 4, 0);
    }
}
