import java.util.ArrayList;
import java.util.Arrays;
import java.util.List;

/** The order of a call's STATUS, and that a call which is refused changes nothing but that. */
final class StatusEdges {
    private static final int NONE = CheatHeap.NONE;
    private static final String TABLE = "kinds 4 each 6;law down;most 2;player ann lies 4 doubts 5;player b doubts 6;player cid;"
        + "hand ann 3 of 0;hand ann 2 of 3;hand b 4 of 1;hand b 1 of 3;hand cid 2 of 2;hand cid 1 of 0;";
    private static final String ROUND = "turn;doubts cid 7;loop 3;turn;end;lies b 9;";

    /** A call, and its answer; what it answers when it is refused is taken for 0. */
    private interface Call {
        long of(CheatHeap x);
    }

    private record Refused(String what, int status, Call call) {
    }

    private final List<Refused> refused = new ArrayList<>();

    private StatusEdges() {
    }

    static void run() {
        Checks.says(0, "STATUS of a call is the first of these that holds: 1 no such TRAY (or sort). 2 no such PLAYER, KIND. 3 the TRAY is MISSING."
            + " 4 a place that the TRAY has not, or too few numbers. 5 a number that can't be. 6 below 0 (a TRAY's length). 7 one too many."
            + " 8 there is none. 9 it can't be. 10 a FAULT. 11 TRAYS of unlike sorts. 0 else.");
        StatusEdges open = new StatusEdges();
        open.trays();
        open.numbers();
        open.players();
        open.whileOneIsOpen();
        open.hold(true);
        StatusEdges between = new StatusEdges();
        between.trays();
        between.numbers();
        between.players();
        between.whileNoneIs();
        between.hold(false);
        tapeAndFault();
        goodOnes();
    }

    private void add(String what, int status, Call call) {
        refused.add(new Refused(what, status, call));
    }

    private static long of(boolean b) {
        return b ? 1 : 0;
    }

    private void trays() {
        add("tray 1 ahead of 5", 1, x -> of(x.tray(4, 0, 61)));
        add("tray 1 ahead of 6", 1, x -> of(x.tray(0, 4, -1)));
        add("tray 5", 5, x -> of(x.tray(0, 0, 61)));
        add("tray 6", 6, x -> of(x.tray(0, 0, -1)));
        add("write 1 ahead of 4", 1, x -> of(x.write(4, 99, 1)));
        add("write 3 ahead of 4", 3, x -> of(x.write(2, 99, 1)));
        add("write 4", 4, x -> of(x.write(0, 8, 1)));
        add("read 1 ahead of 4", 1, x -> x.read(-1, 99) + 1);
        add("read 3 ahead of 4", 3, x -> x.read(2, -1) + 1);
        add("read 4", 4, x -> x.read(0, 8) + 1);
        add("pour 1", 1, x -> of(x.pour(2, 99, 4, 99, -1)));
        add("pour 3", 3, x -> of(x.pour(0, 99, 2, 99, -1)));
        add("pour 11", 11, x -> of(x.pour(0, 99, 1, 99, -1)));
        add("pour 6", 6, x -> of(x.pour(0, 99, 3, 99, -1)));
        add("pour 4", 4, x -> of(x.pour(0, 0, 3, 2, 2)));
        add("copyHand 1", 1, x -> x.copyHand(9, 9) + 1);
        add("copyHand 3", 3, x -> x.copyHand(9, 2) + 1);
        add("copyHand 2", 2, x -> x.copyHand(3, 3) + 1);
        add("copyHand 4", 4, x -> x.copyHand(1, 3) + 1);
    }

    private void numbers() {
        add("table 5", 5, x -> x.table(21) + 1);
        add("table 5", 5, x -> x.table(-1) + 1);
        add("round 5", 5, x -> x.round(21) + 1);
        add("round 5", 5, x -> x.round(301) + 1);
        add("many 5", 5, x -> x.many(11) + 1);
        add("many 8", 8, x -> x.many(9) + 1);
        add("laying 5 ahead of 8", 5, x -> x.laying(99, 4) + 1);
        add("laying 8", 8, x -> x.laying(99, 3) + 1);
        add("cardOf 8", 8, x -> x.cardOf(0, 9) + 1);
        add("sorts 5", 5, x -> x.sorts(3) + 1);
        add("best 5 ahead of 9", 5, x -> x.best(17, 0) + 1);
        add("play 5", 5, x -> x.play(10000) + 1);
        add("played 5", 5, x -> x.played(5) + 1);
        add("mark 7", 7, x -> x.mark() + 1);
    }

    private void players() {
        add("player 2 ahead of 5", 2, x -> x.player(3, 9) + 1);
        add("player 5", 5, x -> x.player(2, 6) + 1);
        add("hand 2", 2, x -> x.hand(0, 4) + 1);
        add("inGame 2", 2, x -> x.inGame(4) + 1);
        add("bend 2 ahead of 5", 2, x -> of(x.bend(3, 17, 17)));
        add("bend 5", 5, x -> of(x.bend(0, 1, 17)));
        add("known 2", 2, x -> x.known(3, 0) + 1);
        add("unknown 2", 2, x -> x.unknown(0, -2) + 1);
        add("honest 2", 2, x -> of(x.honest(3)));
        add("heap 2", 2, x -> of(x.heap(0, 4)));
        add("said 2", 2, x -> x.said(-1, 0) + 1);
        add("waits 2", 2, x -> x.waits(3) + 1);
        add("falls 2 ahead of 5", 2, x -> x.falls(3, 61) + 1);
        add("falls 5", 5, x -> x.falls(2, 61) + 1);
        add("honestly 2 ahead of 5", 2, x -> x.honestly(-1, -1) + 1);
        add("honestly 5", 5, x -> x.honestly(0, -1) + 1);
        add("rid 2", 2, x -> x.rid(3) + 1);
        add("lastKind 2", 2, x -> x.lastKind(3) + 1);
        add("mustLie 2", 2, x -> x.mustLie(3) + 1);
        add("sayer 2", 2, x -> x.sayer(4) + 1);
        add("has 2", 2, x -> x.has(3) + 1);
        add("lies 2", 2, x -> x.lies(-1) + 1);
        add("guess 2 ahead of 5", 2, x -> of(x.guess(3, 0, 5)));
        add("guess 5", 5, x -> of(x.guess(0, 0, 5)));
        add("quartet 2", 2, x -> x.quartet(3) + 1);
        add("wins 2 ahead of 5", 2, x -> of(x.wins(3, -1, 0)));
        add("wins 5", 5, x -> of(x.wins(0, 9999, 2)));
        add("left 2 ahead of 5", 2, x -> of(x.left(3, -1, 0)));
        add("left 5", 5, x -> of(x.left(0, 0, 21)));
        add("lay 2 ahead of 5", 2, x -> x.lay(NONE, 4, 0, 0) + 1);
        add("lay 2 ahead of 7", 2, x -> x.lay(0, 0, 0, -2) + 1);
        add("lay 5", 5, x -> x.lay(NONE, 0, 0, 0) + 1);
        add("lay 7 ahead of 9", 7, x -> x.lay(2, 2, 2, NONE) + 1);
        add("doubt 2", 2, x -> x.doubt(3) + 1);
    }

    private void whileOneIsOpen() {
        add("lay 9", 9, x -> x.lay(3, NONE, NONE, NONE) + 1);
        add("doubt 5", 5, x -> x.doubt(2) + 1);
        add("impossible 2", 2, x -> x.impossible(3) + 1);
        add("impossible 5", 5, x -> x.impossible(2) + 1);
        add("blind 5", 5, x -> of(x.blind(2)));
        add("belief 5", 5, x -> of(x.belief(2)));
        add("worth 5", 5, x -> of(x.worth(2)));
        add("best 9", 9, x -> x.best(0, 0) + 1);
    }

    private void whileNoneIs() {
        add("lay 9", 9, x -> x.lay(2, NONE, NONE, NONE) + 1);
        add("leave 8", 8, x -> x.leave() + 1);
        add("doubt 8", 8, x -> x.doubt(0) + 1);
        add("impossible 8", 8, x -> x.impossible(0) + 1);
        add("blind 8", 8, x -> of(x.blind(1)));
        add("belief 8", 8, x -> of(x.belief(1)));
        add("worth 8", 8, x -> of(x.worth(1)));
        add("ready 8", 8, x -> x.ready() + 1);
    }

    /** A game far on: TRAYS 0 (8 places), 1 (another sort) and 3 (3 places) are there, three MARKS, a play, twenty bytes on the tape. */
    private static CheatHeap game(boolean isOpen) {
        CheatHeap x = Checks.withTable(TABLE);
        x.tray(0, 2, 8);
        x.tray(1, 1, 4);
        x.tray(3, 2, 3);
        for (int i = 0; i < 8; i++) {
            x.write(0, i, 90 + i);
            x.write(1, i, 80 + i);
            x.write(3, i, 70 + i);
        }
        x.mark();
        Checks.round(x, ROUND);
        x.lay(3, 3, NONE, NONE);
        x.doubt(2);
        x.mark();
        x.play(3);
        x.back();
        x.mark();
        x.mark();
        x.bend(0, 11, 12);
        x.lay(2, 0, NONE, NONE);
        if (!isOpen) {
            x.leave();
        }
        Checks.feed(x, "kinds 3 each 2; left");
        x.honest(0);
        return x;
    }

    private void hold(boolean isOpen) {
        long[] due = told(game(isOpen));
        for (Refused r : refused) {
            CheatHeap x = game(isOpen);
            long[] before = Checks.look(x);
            Checks.says(0, "A call with another STATUS than 0 gives NONE, or false");
            long got = r.call.of(x);
            Checks.due(x, r.what, got, 0, r.status);
            Checks.says(0, "and changes nothing but STATUS");
            Checks.due("nothing is changed by " + r.what, Arrays.equals(before, Checks.look(x)), true);
            Checks.due("nor shows it later: " + r.what, Arrays.equals(due, told(x)), true);
        }
    }

    /** What comes of it: the rest that can be told of the game, the tape, the ROUND and the MARKS. */
    private static long[] told(CheatHeap x) {
        long[] told = new long[40];
        told[0] = x.feed(0, 0, 0, 0, 0);
        told[1] = of(x.left(0, 5, 9));
        told[2] = x.top();
        told[3] = of(x.wins(2, 5, 9));
        told[4] = x.top();
        told[5] = x.doubt(0);
        told[6] = x.many(5);
        told[7] = x.many(6);
        told[8] = x.hand(2, 2);
        told[9] = x.table(15);
        told[10] = x.many(0);
        for (int n = 0; n < 4; n++) {
            told[12 + 6 * n] = x.back();
            told[13 + 6 * n] = x.many(7);
            told[14 + 6 * n] = x.player(0, 0);
            told[15 + 6 * n] = x.play(4);
            told[16 + 6 * n] = x.player(1, 2);
        }
        return told;
    }

    private static void tapeAndFault() {
        Checks.says(0, "A call with another STATUS than 0 gives NONE, or false, and changes nothing but STATUS (but table(), round() with 10 the tape, and what"
            + " fault() tells).");
        for (int i = 0; i < 2; i++) {
            CheatHeap x = game(true);
            long[] before = Checks.look(x);
            long got = i == 0 ? x.table(20) : x.round(20);
            Checks.due(x, "a FAULT", got, NONE, 10);
            Checks.due("its kind", x.fault(0), 2);
            Checks.due("its place", x.fault(1), i == 0 ? 16 : 0);
            Checks.due("the tape is empty", x.feed(0, 0, 0, 0, 0), 20);
            long[] behind = Checks.look(x);
            int differ = 0;
            for (int k = 0; k < before.length; k++) {
                differ += before[k] == behind[k] ? 0 : 1;
            }
            Checks.due("no more than what fault() tells, twice", differ, 2);
            Checks.due(x, "the MARKS", x.mark(), NONE, 7);
            Checks.due(x, "the ROUND", x.play(3), 7, 0);
        }
    }

    private static void goodOnes() {
        Checks.says(0, "0 else.");
        CheatHeap x = game(true);
        Call[] good = {c -> c.many(0), c -> c.player(2, 5), c -> c.hand(2, 3), c -> c.inGame(3), c -> c.laying(0, 3), c -> c.cardOf(0, 1),
            c -> c.copyHand(2, 0), c -> c.known(2, 3), c -> c.unknown(2, -1), c -> c.impossible(0), c -> of(c.blind(1)), c -> of(c.honest(2)),
            c -> of(c.belief(0)), c -> of(c.worth(1)), c -> c.ready(), c -> of(c.heap(0, 3)), c -> c.said(0, 3), c -> c.waits(2), c -> c.falls(2, 60),
            c -> c.honestly(2, 60), c -> c.sayer(3), c -> c.has(2), c -> c.lies(3), c -> of(c.guess(1, 3, 4)), c -> c.fullest(), c -> c.sorts(2), c -> c.liar(),
            c -> c.played(4), c -> of(c.wins(2, 9980, 20)), c -> of(c.left(2, 9980, 20)), c -> of(c.bend(2, 16, 16)), c -> c.doubt(1), c -> of(c.tray(3, 3, 60)),
            c -> of(c.write(3, 59, -1)), c -> of(c.pour(3, 0, 3, 30, 30)), c -> c.back(), c -> c.mark(), c -> c.play(9999), c -> c.round(0), c -> c.table(15)};
        for (int i = 0; i < good.length; i++) {
            x.read(9, 9);
            Checks.due("a call that is good " + i, good[i].of(x) >= 0, true);
            Checks.due("its STATUS " + i, x.status(), 0);
            if (i == good.length - 2) {
                Checks.feed(x, "kinds 3 each 2;");
            }
        }
    }
}
