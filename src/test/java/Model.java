import java.math.BigInteger;
import java.util.ArrayList;
import java.util.List;

/** The game told again as plainly as can be, with lists, walks and exact fractions, to hold the program against. */
final class Model {
    static final int NONE = -1;
    static final int MISS = Integer.MIN_VALUE;

    static final class Player {
        String name;
        int lies;
        int doubts;
        int shown;
        int untrue;
        List<Integer> cards = new ArrayList<>();

        int of(int kind) {
            int n = 0;
            for (int c : cards) {
                n += c == kind ? 1 : 0;
            }
            return n;
        }
    }

    record Laying(int who, int said, List<Integer> cards) {
        int fitting() {
            int n = 0;
            for (int c : cards) {
                n += c == said ? 1 : 0;
            }
            return n;
        }

        int truth() {
            return fitting() == cards.size() ? 0 : fitting() == 0 ? 2 : 1;
        }
    }

    /** A fraction in lowest terms. */
    record Fraction(BigInteger top, BigInteger bottom) {
        static Fraction of(long top, long bottom) {
            return of(BigInteger.valueOf(top), BigInteger.valueOf(bottom));
        }

        static Fraction of(BigInteger top, BigInteger bottom) {
            BigInteger d = top.gcd(bottom);
            if (bottom.signum() < 0) {
                d = d.negate();
            }
            return new Fraction(top.divide(d), bottom.divide(d));
        }

        Fraction times(Fraction o) {
            return of(top.multiply(o.top), bottom.multiply(o.bottom));
        }

        Fraction plus(Fraction o) {
            return of(top.multiply(o.bottom).add(o.top.multiply(bottom)), bottom.multiply(o.bottom));
        }

        Fraction by(Fraction o) {
            return of(top.multiply(o.bottom), bottom.multiply(o.top));
        }

        Fraction less(Fraction o) {
            return plus(of(o.top.negate(), o.bottom));
        }

        Fraction toOne() {
            return of(1, 1).less(this);
        }

        int compare(Fraction o) {
            return top.multiply(o.bottom).compareTo(o.top.multiply(bottom));
        }
    }

    /** A STEP of a ROUND: its word, its numbers, and what it holds. */
    static final class Step {
        String word;
        String test;
        String sign;
        int who;
        int number;
        List<Step> body = new ArrayList<>();
    }

    private static final class Ended extends RuntimeException {
        private static final long serialVersionUID = 1L;
    }

    int kinds = 2;
    int each = 1;
    String law = "up";
    int most = 4;
    List<Player> players = new ArrayList<>();
    List<Laying> heap = new ArrayList<>();
    List<Step> round = null;
    int kind;
    int turn;
    int winner = NONE;
    boolean open;

    int steps;
    int missed;
    int layings;
    int doubts;
    int right;
    boolean cut;
    private long seed;

    Model copy() {
        Model m = new Model();
        m.kinds = kinds;
        m.each = each;
        m.law = law;
        m.most = most;
        for (Player p : players) {
            Player q = new Player();
            q.name = p.name;
            q.lies = p.lies;
            q.doubts = p.doubts;
            q.shown = p.shown;
            q.untrue = p.untrue;
            q.cards.addAll(p.cards);
            m.players.add(q);
        }
        m.heap.addAll(heap);
        m.round = round;
        m.kind = kind;
        m.turn = turn;
        m.winner = winner;
        m.open = open;
        return m;
    }

    int inGame(int ofKind) {
        int n = 0;
        for (Player p : players) {
            n += p.of(ofKind);
        }
        return n + inHeap(ofKind);
    }

    int inHeap(int ofKind) {
        int n = 0;
        for (Laying l : heap) {
            for (int c : l.cards) {
                n += c == ofKind ? 1 : 0;
            }
        }
        return n;
    }

    int heapCards() {
        int n = 0;
        for (Laying l : heap) {
            n += l.cards.size();
        }
        return n;
    }

    int laidBy(int player, int ofKind) {
        int n = 0;
        for (Laying l : heap) {
            for (int c : l.cards) {
                n += l.who == player && c == ofKind ? 1 : 0;
            }
        }
        return n;
    }

    int next(int player) {
        return player + 1 == players.size() ? 0 : player + 1;
    }

    int kindBehind(int k, boolean left) {
        if (law.equals("same") && left) {
            return k;
        }
        if (law.equals("down")) {
            return k == 0 ? kinds - 1 : k - 1;
        }
        return k + 1 == kinds ? 0 : k + 1;
    }

    void lay(List<Integer> cards) {
        List<Integer> laid = new ArrayList<>(cards);
        laid.sort(null);
        for (Integer c : laid) {
            players.get(turn).cards.remove(c);
        }
        heap.add(new Laying(turn, kind, laid));
        open = true;
    }

    void leave() {
        if (players.get(turn).cards.isEmpty()) {
            winner = turn;
        }
        open = false;
        turn = next(turn);
        kind = kindBehind(kind, true);
    }

    int doubt(int doubter) {
        Laying top = heap.get(heap.size() - 1);
        players.get(turn).shown++;
        int taker = turn;
        if (top.truth() == 0) {
            taker = doubter;
            if (players.get(turn).cards.isEmpty()) {
                winner = turn;
            }
        } else {
            players.get(turn).untrue++;
            turn = doubter;
        }
        for (Laying l : heap) {
            players.get(taker).cards.addAll(l.cards);
        }
        heap.clear();
        open = false;
        kind = kindBehind(kind, false);
        return taker;
    }

    int known(int player, int ofKind) {
        return players.get(player).of(ofKind) + laidBy(player, ofKind);
    }

    int unknown(int player, int ofKind) {
        int sum = 0;
        for (int k = 0; k < kinds; k++) {
            sum += k == ofKind || ofKind == NONE ? inGame(k) - known(player, k) : 0;
        }
        return sum;
    }

    boolean impossible(int player) {
        return unknown(player, kind) < heap.get(heap.size() - 1).cards.size();
    }

    /** One card is taken behind the other. */
    static Fraction odds(int fit, int all, int n) {
        Fraction f = Fraction.of(1, 1);
        for (int i = 0; i < n; i++) {
            f = f.times(Fraction.of(Math.max(0, fit - i), all - i));
        }
        return f;
    }

    Fraction blind(int player) {
        return odds(unknown(player, kind), unknown(player, NONE), heap.get(heap.size() - 1).cards.size());
    }

    Fraction honest(int player) {
        Player p = players.get(player);
        return Fraction.of(p.shown - p.untrue + 1, p.shown + 2);
    }

    Fraction belief(int player) {
        Fraction b = blind(player);
        Fraction h = honest(turn);
        Fraction yes = b.times(h);
        return yes.by(yes.plus(b.toOne().times(h.toOne())));
    }

    Fraction worth(int player) {
        return Fraction.of(heapCards(), 1).times(blind(player).toOne().less(blind(player)));
    }

    int ready() {
        int found = next(turn);
        for (int p = next(found); p != turn; p = next(p)) {
            if (worth(p).compare(worth(found)) > 0) {
                found = p;
            }
        }
        return found;
    }

    Fraction inTheHeap(int player, int ofKind) {
        int own = 0;
        for (int k = 0; k < kinds; k++) {
            own += laidBy(player, k);
        }
        int others = heapCards() - own;
        Fraction mine = Fraction.of(laidBy(player, ofKind), 1);
        return others == 0 ? mine
            : mine.plus(Fraction.of(others, 1).times(Fraction.of(unknown(player, ofKind), unknown(player, NONE))));
    }

    int said(int player, int ofKind) {
        int n = 0;
        for (Laying l : heap) {
            n += l.who == player && l.said == ofKind ? 1 : 0;
        }
        return n;
    }

    /** The TURNS from now on one by one: how many are ahead of the r-th of a PLAYER, and which KIND it says then. */
    int[] walk(int player, int r) {
        int who = turn;
        int k = kind;
        int ahead = 0;
        boolean taken = open;
        int had = 0;
        for (int guard = 0; guard < 1000; guard++) {
            if (!taken && who == player) {
                if (had == r) {
                    return new int[] {ahead, k};
                }
                had++;
            }
            taken = false;
            who = next(who);
            k = kindBehind(k, true);
            ahead++;
        }
        throw new IllegalStateException();
    }

    /** How many cards are left behind each TURN, the KIND laid in it, or MISS if none. */
    int[][] honestWalk(int player) {
        Player p = players.get(player);
        List<Integer> rest = new ArrayList<>(p.cards);
        int[][] told = new int[2][60];
        for (int r = 0; r < 60; r++) {
            Integer k = walk(player, r)[1];
            told[1][r] = rest.contains(k) ? k : MISS;
            for (int i = 0; i < most; i++) {
                rest.remove(k);
            }
            told[0][r] = rest.size();
        }
        return told;
    }

    int honestly(int player, int r) {
        return r == 0 ? 0 : players.get(player).cards.size() - honestWalk(player)[0][r - 1];
    }

    int rid(int player) {
        if (players.get(player).cards.isEmpty()) {
            return 0;
        }
        int[] left = honestWalk(player)[0];
        for (int r = 0; r < 60; r++) {
            if (left[r] == 0) {
                return r + 1;
            }
        }
        return MISS;
    }

    int lastKind(int player) {
        int rid = rid(player);
        return rid == MISS || rid == 0 ? MISS : honestWalk(player)[1][rid - 1];
    }

    int mustLie(int player) {
        int[] kindsLaid = honestWalk(player)[1];
        int rid = rid(player);
        for (int r = 0; r < (rid == MISS ? 60 : rid); r++) {
            if (kindsLaid[r] == MISS) {
                return r;
            }
        }
        return MISS;
    }

    int soonest() {
        int found = MISS;
        for (int p = players.size() - 1; p >= 0; p--) {
            if (rid(p) != MISS && (found == MISS || rid(p) <= rid(found))) {
                found = p;
            }
        }
        return found;
    }

    /** Of all ways the best: t, f, and the mean. */
    Object[] best(int d) {
        Player p = players.get(turn);
        int fit = p.of(kind);
        Object[] found = null;
        for (int n = 1; n <= most; n++) {
            for (int f = 0; f <= n; f++) {
                int t = n - f;
                if (t > fit || f > p.cards.size() - fit) {
                    continue;
                }
                Fraction mean = Fraction.of(p.cards.size() - n, 1);
                if (f > 0) {
                    Fraction back = Fraction.of(heapCards() + p.cards.size(), 1);
                    Fraction doubted = Fraction.of(d, 16);
                    mean = mean.times(doubted.toOne()).plus(back.times(doubted));
                }
                if (found == null || isBetter(mean, f, t, found)) {
                    found = new Object[] {t, f, mean};
                }
            }
        }
        return found;
    }

    private static boolean isBetter(Fraction mean, int f, int t, Object[] than) {
        int c = mean.compare((Fraction) than[2]);
        if (c != 0) {
            return c < 0;
        }
        return f != (int) than[1] ? f < (int) than[1] : t > (int) than[0];
    }

    int sayer(int ofKind) {
        int found = MISS;
        int least = Integer.MAX_VALUE;
        for (int p = 0; p < players.size(); p++) {
            for (int r = 0; r < 20; r++) {
                int[] at = walk(p, r);
                if (at[1] == ofKind && at[0] < least) {
                    least = at[0];
                    found = p;
                }
            }
        }
        return found;
    }

    int liar() {
        int found = 0;
        for (int p = 1; p < players.size(); p++) {
            if (honest(p).compare(honest(found)) < 0) {
                found = p;
            }
        }
        return found;
    }

    private int draw() {
        seed = (seed * 2861 + 10259) & 0xFFFF;
        return (int) (seed >> 3 & 15);
    }

    void play(int from) {
        seed = from;
        steps = 0;
        missed = 0;
        layings = 0;
        doubts = 0;
        right = 0;
        cut = false;
        try {
            playAll(round);
        } catch (Ended e) {
            // stop, or the 300
        }
    }

    private void playAll(List<Step> list) {
        for (Step s : list) {
            if (steps == 300) {
                cut = true;
                throw new Ended();
            }
            steps++;
            play(s);
        }
    }

    private void play(Step s) {
        switch (s.word) {
            case "turn" -> takeTurn();
            case "lies" -> players.get(s.who).lies = s.number;
            case "doubts" -> players.get(s.who).doubts = s.number;
            case "stop" -> throw new Ended();
            case "loop" -> {
                for (int i = 0; i < s.number; i++) {
                    playAll(s.body);
                }
            }
            default -> {
                if (holds(s)) {
                    playAll(s.body);
                }
            }
        }
    }

    private boolean holds(Step s) {
        int v;
        switch (s.test) {
            case "won":
                return winner != NONE;
            case "cards":
                v = players.get(s.who).cards.size();
                break;
            case "heap":
                v = heapCards();
                break;
            default:
                v = players.get(s.who).shown;
                break;
        }
        return s.sign.equals("<") ? v < s.number : s.sign.equals(">") ? v > s.number : v == s.number;
    }

    private void takeTurn() {
        if (open) {
            leave();
        }
        if (winner != NONE || players.size() < 2 || players.get(turn).cards.isEmpty()) {
            missed++;
            return;
        }
        Player p = players.get(turn);
        List<Integer> cards = new ArrayList<>();
        for (int i = 0; i < most && i < p.of(kind); i++) {
            cards.add(kind);
        }
        if (cards.size() < most && p.cards.size() > p.of(kind)) {
            if (cards.isEmpty() || draw() < p.lies) {
                int other = NONE;
                for (int k = 0; k < kinds; k++) {
                    if (k != kind && (other == NONE || p.of(k) > p.of(other))) {
                        other = k;
                    }
                }
                cards.add(other);
            }
        }
        lay(cards);
        layings++;
        for (int d = next(turn); d != turn; d = next(d)) {
            if (impossible(d) || draw() < players.get(d).doubts) {
                doubts++;
                right += heap.get(heap.size() - 1).truth() == 0 ? 0 : 1;
                doubt(d);
                return;
            }
        }
        leave();
    }
}
