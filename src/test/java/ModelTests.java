import java.util.ArrayList;
import java.util.List;
import java.util.Random;

/** Games by chance, each call held against the model: its answer, its STATUS, its FRACTION, and all that is told behind it. */
public final class ModelTests {
    private static final int NONE = -1;
    private static final String[] NAMES = {"ann", "b", "cid", "doubtsx", "abcdefgh", "o", "kind", "ends"};

    private final Random random;
    private final CheatHeap x = new CheatHeap();
    private Model m = new Model();
    private final List<Model> marks = new ArrayList<>();
    private Model lastPlay = null;
    private long top = 0;
    private long bottom = 1;
    private String at = "";

    private ModelTests(int seed) {
        random = new Random(seed);
        at = "game " + seed + ": ";
    }

    public static void main(String[] args) {
        int games = args.length > 0 ? Integer.parseInt(args[0]) : 250;
        for (int seed = 0; seed < games; seed++) {
            new ModelTests(seed).run();
        }
        Checks.finish("ModelTests");
    }

    private void run() {
        observeAll();
        for (int i = 0; i < 60; i++) {
            act();
            if (i % 4 == 0) {
                observeAll();
            } else {
                observeSome();
            }
        }
    }

    private int some(int from, int to) {
        return from + random.nextInt(to - from + 1);
    }

    // ---- what is done

    private void act() {
        int n = m.players.isEmpty() ? 0 : random.nextInt(26);
        if (n == 0) {
            newTable();
        } else if (n <= 2) {
            newRound();
        } else if (n <= 4) {
            mark();
        } else if (n <= 5) {
            back();
        } else if (n <= 8) {
            play();
        } else if (n <= 9) {
            trials();
        } else if (n <= 10) {
            bend();
        } else if (n <= 18) {
            lay();
        } else if (n <= 22) {
            leave();
        } else {
            doubt();
        }
    }

    private void done(String call, long got, long want, int status) {
        int found = x.status();
        Checks.due(at + call, got, want);
        Checks.due(at + call + " status", found, status);
        Checks.due(at + call + " top", x.top(), top);
        Checks.due(at + call + " bottom", x.bottom(), bottom);
    }

    private void told(String call, boolean got, Model.Fraction f) {
        top = f.top().longValueExact();
        bottom = f.bottom().longValueExact();
        done(call, got ? 1 : 0, 1, 0);
    }

    private String blank() {
        return random.nextInt(3) == 0 ? " \n" : " ";
    }

    private String maybe() {
        return random.nextInt(4) == 0 ? " " : "";
    }

    private void newTable() {
        Model t = new Model();
        t.kinds = random.nextBoolean() ? some(2, 4) : some(2, 10);
        t.each = random.nextBoolean() ? some(1, 4) : some(1, 8);
        StringBuilder s = new StringBuilder("kinds " + t.kinds + " each " + t.each + maybe() + ";");
        List<String> late = new ArrayList<>();
        if (random.nextInt(4) > 0) {
            t.law = new String[] {"up", "down", "same"}[random.nextInt(3)];
            late.add("law " + t.law + maybe() + ";" + maybe());
        }
        if (random.nextInt(3) > 0) {
            t.most = some(1, 4);
            late.add("most" + maybe() + t.most + ";");
        }
        int players = random.nextInt(12) == 0 ? some(0, 1) : some(2, 6);
        int[] dealt = new int[10];
        for (int p = 0; p < players; p++) {
            addPlayer(t, s, p);
            if (!late.isEmpty() && random.nextBoolean()) {
                s.append(late.remove(0));
            }
            deal(t, s, p, dealt, Math.max(1, players - p));
        }
        for (String part : late) {
            s.append(part);
        }
        if (s.length() > 900) {
            return;
        }
        m = t;
        done("table " + s, Checks.table(x, s.toString()), players, 0);
        Checks.due(at + "fault", x.fault(0), 0);
    }

    private void addPlayer(Model t, StringBuilder s, int p) {
        Model.Player player = new Model.Player();
        player.name = NAMES[p];
        s.append(maybe()).append("player").append(blank()).append(player.name);
        if (random.nextBoolean()) {
            player.lies = some(0, 16);
            s.append(blank()).append("lies ").append(player.lies);
        }
        if (random.nextBoolean()) {
            player.doubts = random.nextBoolean() ? some(0, 3) : some(0, 16);
            s.append(blank()).append("doubts ").append(player.doubts);
        }
        s.append(maybe()).append(";");
        t.players.add(player);
    }

    private void deal(Model t, StringBuilder s, int p, int[] dealt, int sharers) {
        for (int k = 0; k < t.kinds; k++) {
            int n = Math.min(t.each - dealt[k], random.nextInt(2 + (t.each - dealt[k]) * 2 / sharers));
            if (n > 0 || random.nextInt(10) == 0) {
                dealt[k] += n;
                s.append("hand ").append(t.players.get(p).name).append(blank()).append(n).append(" of").append(maybe()).append(k).append(";");
                for (int i = 0; i < n; i++) {
                    t.players.get(p).cards.add(k);
                }
            }
        }
    }

    private void newRound() {
        StringBuilder s = new StringBuilder();
        int[] room = {some(0, 12)};
        int steps = room[0];
        List<Model.Step> list = steps(s, room, 0);
        if (s.length() > 300) {
            return;
        }
        m.round = list;
        done("round " + s, Checks.round(x, s.toString()), steps - room[0], 0);
    }

    private List<Model.Step> steps(StringBuilder s, int[] room, int depth) {
        List<Model.Step> list = new ArrayList<>();
        while (room[0] > 0 && (depth == 0 ? random.nextInt(9) > 0 : random.nextInt(4) > 0)) {
            room[0]--;
            Model.Step step = new Model.Step();
            int n = random.nextInt(12);
            boolean deep = depth < 3;
            step.word = n < 5 ? "turn" : n == 5 ? "lies" : n == 6 ? "doubts" : n < 9 && deep ? "when" : n < 11 && deep ? "loop"
                : n == 11 && random.nextInt(3) == 0 ? "stop" : "turn";
            s.append(maybe()).append(step.word);
            rest(s, step);
            s.append(maybe()).append(";");
            if (step.word.equals("loop") || step.word.equals("when")) {
                step.body = steps(s, room, depth + 1);
                s.append("end").append(maybe()).append(";");
            }
            list.add(step);
        }
        return list;
    }

    private void rest(StringBuilder s, Model.Step step) {
        step.who = random.nextInt(m.players.size());
        String name = m.players.get(step.who).name;
        switch (step.word) {
            case "lies", "doubts" -> {
                step.number = some(0, 16);
                s.append(blank()).append(name).append(maybe()).append(step.number);
            }
            case "loop" -> {
                step.number = random.nextInt(4) == 0 ? some(1, 99) : some(1, 9);
                s.append(maybe()).append(step.number);
            }
            case "when" -> {
                step.test = new String[] {"won", "cards", "heap", "shown"}[random.nextInt(4)];
                s.append(blank()).append(step.test);
                if (!step.test.equals("won")) {
                    s.append(step.test.equals("heap") ? "" : " " + name);
                    step.sign = new String[] {"<", ">", "="}[random.nextInt(3)];
                    step.number = some(0, 8);
                    s.append(maybe()).append(step.sign).append(maybe()).append(step.number);
                }
            }
            default -> {
            }
        }
    }

    private void mark() {
        if (marks.size() == 3) {
            done("mark", x.mark(), NONE, 7);
            return;
        }
        marks.add(m.copy());
        done("mark", x.mark(), marks.size(), 0);
    }

    private void back() {
        if (marks.isEmpty()) {
            done("back", x.back(), NONE, 8);
            return;
        }
        m = marks.remove(marks.size() - 1);
        done("back", x.back(), marks.size(), 0);
    }

    private void play() {
        int seed = random.nextInt(8) == 0 ? random.nextBoolean() ? -1 : 10000 : random.nextInt(10000);
        if (seed < 0 || seed > 9999) {
            done("play", x.play(seed), NONE, 5);
        } else if (m.round == null) {
            done("play", x.play(seed), NONE, 8);
        } else {
            m.play(seed);
            lastPlay = m.copy();
            lastPlay.steps = m.steps;
            lastPlay.missed = m.missed;
            lastPlay.layings = m.layings;
            lastPlay.doubts = m.doubts;
            lastPlay.right = m.right;
            lastPlay.cut = m.cut;
            done("play " + seed, x.play(seed), m.steps, 0);
        }
    }

    private void trials() {
        int player = some(-1, m.players.size());
        int seed = some(-1, 9999);
        int many = some(0, 8);
        int status = player < 0 || player >= m.players.size() ? 2
            : seed < 0 || many < 1 || seed + many > 10000 ? 5 : m.round == null ? 8 : 0;
        if (status != 0) {
            done("wins", x.wins(player, seed, many) ? 1 : 0, 0, status);
            done("left", x.left(player, seed, many) ? 1 : 0, 0, status);
            return;
        }
        int won = 0;
        int cards = 0;
        for (int i = 0; i < many; i++) {
            Model t = m.copy();
            t.play(seed + i);
            won += t.winner == player ? 1 : 0;
            cards += t.players.get(player).cards.size();
        }
        told("wins", x.wins(player, seed, many), Model.Fraction.of(won, many));
        told("left", x.left(player, seed, many), Model.Fraction.of(cards, many));
    }

    private void bend() {
        int player = some(-1, m.players.size());
        int lies = some(-1, 17);
        int doubts = some(-1, 17);
        if (player < 0 || player >= m.players.size()) {
            done("bend", x.bend(player, lies, doubts) ? 1 : 0, 0, 2);
        } else if (lies < 0 || lies > 16 || doubts < 0 || doubts > 16) {
            done("bend", x.bend(player, lies, doubts) ? 1 : 0, 0, 5);
        } else {
            m.players.get(player).lies = lies;
            m.players.get(player).doubts = doubts;
            done("bend", x.bend(player, lies, doubts) ? 1 : 0, 1, 0);
        }
    }

    private void lay() {
        int[] c = {NONE, NONE, NONE, NONE};
        if (random.nextInt(3) > 0 && !m.players.get(m.turn).cards.isEmpty()) {
            List<Integer> rest = new ArrayList<>(m.players.get(m.turn).cards);
            for (int i = 0; i < some(1, m.most) && !rest.isEmpty(); i++) {
                int j = rest.contains(m.kind) && random.nextBoolean() ? rest.indexOf(m.kind) : random.nextInt(rest.size());
                c[i] = rest.remove(j);
            }
        } else {
            for (int i = 0; i < 4; i++) {
                c[i] = random.nextInt(3) == 0 ? NONE : some(-1, random.nextInt(6) == 0 ? m.kinds : m.kinds - 1);
            }
        }
        int status = layStatus(c);
        if (status == 0) {
            List<Integer> cards = new ArrayList<>();
            for (int k : c) {
                if (k != NONE) {
                    cards.add(k);
                }
            }
            m.lay(cards);
        }
        done("lay " + c[0] + c[1] + c[2] + c[3], x.lay(c[0], c[1], c[2], c[3]), status == 0 ? m.heapCards() : NONE, status);
    }

    private int layStatus(int[] c) {
        int n = 0;
        boolean gap = false;
        List<Integer> rest = new ArrayList<>(m.players.get(m.turn).cards);
        boolean hasThem = true;
        for (int i = 0; i < 4; i++) {
            if (c[i] < NONE || c[i] >= m.kinds) {
                return 2;
            }
            if (c[i] != NONE) {
                gap |= n < i;
                n++;
                hasThem &= rest.remove((Integer) c[i]);
            }
        }
        return n == 0 || gap ? 5 : n > m.most ? 7 : m.open || m.winner != NONE || !hasThem ? 9 : 0;
    }

    private void leave() {
        if (!m.open) {
            done("leave", x.leave(), NONE, 8);
            return;
        }
        m.leave();
        done("leave", x.leave(), m.turn, 0);
    }

    private int doubtStatus(int player) {
        return player < 0 || player >= m.players.size() ? 2 : !m.open ? 8 : player == m.turn ? 5 : 0;
    }

    private void doubt() {
        int player = some(-1, m.players.size());
        int status = doubtStatus(player);
        done("doubt", x.doubt(player), status == 0 ? m.doubt(player) : NONE, status);
    }

    // ---- what is told

    private void observeSome() {
        int players = m.players.size();
        observeCounts();
        if (players > 0) {
            int p = random.nextInt(players);
            observePlayer(p);
            observeOdds(p);
            observeKind(p, random.nextInt(m.kinds));
        }
    }

    private void observeAll() {
        observeCounts();
        observeLayings();
        for (int p = -1; p <= m.players.size(); p++) {
            observePlayer(p);
            observeOdds(p);
            for (int k = -1; k <= m.kinds; k++) {
                observeKind(p, k);
            }
        }
        for (int k = -1; k <= m.kinds; k++) {
            boolean is = k >= 0 && k < m.kinds;
            done("inGame", x.inGame(k), is ? m.inGame(k) : NONE, is ? 0 : 2);
            done("lies", x.lies(k), is ? m.inHeap(k) : NONE, is ? 0 : 2);
            int sayer = is ? m.sayer(k) : NONE;
            done("sayer", x.sayer(k), sayer == Model.MISS ? NONE : sayer, !is ? 2 : sayer == Model.MISS ? 8 : 0);
        }
        observeBest();
        observeWhole();
    }

    private void observeCounts() {
        int law = m.law.equals("up") ? 0 : m.law.equals("down") ? 1 : 2;
        int[] due = {m.kinds, m.each, m.players.size(), law, m.most, m.kind, m.players.isEmpty() ? NONE : m.turn, m.heapCards(),
            m.open ? 1 : 0, m.winner, m.heap.size()};
        for (int what = 0; what < due.length; what++) {
            done("many " + what, x.many(what), due[what], due[what] == NONE ? 8 : 0);
        }
        for (int what = -1; what <= 5; what++) {
            int status = what < 0 || what > 4 ? 5 : lastPlay == null ? 8 : 0;
            int played = status != 0 ? NONE : what == 0 ? lastPlay.missed : what == 1 ? lastPlay.layings
                : what == 2 ? lastPlay.doubts : what == 3 ? lastPlay.right : lastPlay.cut ? 1 : 0;
            done("played " + what, x.played(what), played, status);
        }
    }

    private void observeLayings() {
        int[] sorts = new int[3];
        for (int k = 0; k < m.heap.size(); k++) {
            Model.Laying l = m.heap.get(k);
            sorts[l.truth()]++;
            int[] due = {l.who(), l.said(), l.cards().size(), l.truth()};
            for (int what = 0; what < 4; what++) {
                done("laying", x.laying(k, what), due[what], 0);
            }
            for (int i = 0; i < 4; i++) {
                boolean is = i < l.cards().size();
                done("cardOf", x.cardOf(k, i), is ? l.cards().get(i) : NONE, is ? 0 : 8);
            }
        }
        done("laying", x.laying(m.heap.size(), 0), NONE, 8);
        done("cardOf", x.cardOf(m.heap.size(), 0), NONE, 8);
        for (int what = 0; what < 3; what++) {
            done("sorts", x.sorts(what), sorts[what], 0);
        }
    }

    private void observePlayer(int p) {
        boolean is = p >= 0 && p < m.players.size();
        Model.Player player = is ? m.players.get(p) : new Model.Player();
        int laid = 0;
        int set = 0;
        int quartet = NONE;
        for (int k = m.kinds - 1; k >= 0 && is; k--) {
            laid += m.laidBy(p, k);
            set |= player.of(k) > 0 ? 1 << k : 0;
            quartet = player.of(k) > 0 && player.of(k) == m.inGame(k) ? k : quartet;
        }
        int[] due = {player.lies, player.doubts, player.cards.size(), player.shown, player.untrue, laid};
        for (int what = -1; what <= 6; what++) {
            int status = !is ? 2 : what < 0 || what > 5 ? 5 : 0;
            done("player " + what, x.player(p, what), status == 0 ? due[what] : NONE, status);
        }
        done("has", x.has(p), is ? set : NONE, is ? 0 : 2);
        done("quartet", x.quartet(p), quartet, !is ? 2 : quartet == NONE ? 8 : 0);
        done("waits", x.waits(p), is ? m.walk(p, 0)[0] : NONE, is ? 0 : 2);
        for (int r : new int[] {-1, 0, 1, some(2, 59), 60, 61}) {
            int status = !is ? 2 : r < 0 || r > 60 ? 5 : 0;
            done("falls " + r, x.falls(p, r), status == 0 ? m.walk(p, r)[1] : NONE, status);
            done("honestly " + r, x.honestly(p, r), status == 0 ? m.honestly(p, r) : NONE, status);
        }
        perhaps("rid", x.rid(p), is, is ? m.rid(p) : NONE);
        perhaps("lastKind", x.lastKind(p), is, is ? m.lastKind(p) : NONE);
        perhaps("mustLie", x.mustLie(p), is, is ? m.mustLie(p) : NONE);
    }

    private void perhaps(String call, int got, boolean is, int due) {
        done(call, got, due == Model.MISS ? NONE : due, !is ? 2 : due == Model.MISS ? 8 : 0);
    }

    private void observeOdds(int p) {
        int status = doubtStatus(p);
        if (status != 0) {
            done("impossible", x.impossible(p), NONE, status);
            done("blind", x.blind(p) ? 1 : 0, 0, status);
            done("belief", x.belief(p) ? 1 : 0, 0, status);
            done("worth", x.worth(p) ? 1 : 0, 0, status);
        } else {
            done("impossible", x.impossible(p), m.impossible(p) ? 1 : 0, 0);
            told("blind", x.blind(p), m.blind(p));
            told("belief", x.belief(p), m.belief(p));
            told("worth", x.worth(p), m.worth(p));
        }
        if (status == 2) {
            done("honest", x.honest(p) ? 1 : 0, 0, 2);
        } else {
            told("honest", x.honest(p), m.honest(p));
        }
    }

    private void observeKind(int p, int k) {
        boolean isPlayer = p >= 0 && p < m.players.size();
        boolean is = isPlayer && k >= 0 && k < m.kinds;
        int status = is ? 0 : 2;
        done("hand", x.hand(p, k), is ? m.players.get(p).of(k) : NONE, status);
        done("known", x.known(p, k), is ? m.known(p, k) : NONE, status);
        boolean isUnknown = is || (isPlayer && k == NONE);
        done("unknown", x.unknown(p, k), isUnknown ? m.unknown(p, k) : NONE, isUnknown ? 0 : 2);
        done("said", x.said(p, k), is ? m.said(p, k) : NONE, status);
        if (!is) {
            done("heap", x.heap(p, k) ? 1 : 0, 0, 2);
            done("guess", x.guess(p, k, 9) ? 1 : 0, 0, 2);
            return;
        }
        told("heap", x.heap(p, k), m.inTheHeap(p, k));
        int n = some(-1, 5);
        if (n < 0 || n > 4 || n > m.unknown(p, NONE)) {
            done("guess", x.guess(p, k, n) ? 1 : 0, 0, n < 0 || n > 4 ? 5 : 9);
        } else {
            told("guess", x.guess(p, k, n), Model.odds(m.unknown(p, k), m.unknown(p, NONE), n));
        }
    }

    private void observeBest() {
        for (int d = -1; d <= 17; d++) {
            int what = some(-1, 2);
            int status = d < 0 || d > 16 || what < 0 || what > 1 ? 5 : m.players.isEmpty() ? 8
                : m.open || m.winner != NONE || m.players.get(m.turn).cards.isEmpty() ? 9 : 0;
            if (status != 0) {
                done("best", x.best(d, what), NONE, status);
                continue;
            }
            Object[] best = m.best(d);
            int got = x.best(d, what);
            top = ((Model.Fraction) best[2]).top().longValueExact();
            bottom = ((Model.Fraction) best[2]).bottom().longValueExact();
            done("best " + d + " " + what, got, (int) best[what], 0);
        }
    }

    private void observeWhole() {
        int players = m.players.size();
        if (players == 0) {
            done("soonest", x.soonest(), NONE, 8);
            done("fullest", x.fullest(), NONE, 8);
            done("liar", x.liar(), NONE, 8);
            done("ready", x.ready(), NONE, 8);
            return;
        }
        perhaps("soonest", x.soonest(), true, m.soonest());
        int fullest = 0;
        for (int p = 1; p < players; p++) {
            fullest = m.players.get(p).cards.size() > m.players.get(fullest).cards.size() ? p : fullest;
        }
        done("fullest", x.fullest(), fullest, 0);
        done("liar", x.liar(), m.liar(), 0);
        boolean is = m.open && players > 1;
        done("ready", x.ready(), is ? m.ready() : NONE, is ? 0 : 8);
    }
}
