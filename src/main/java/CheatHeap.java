/** A game of cards laid face down and said to be of a kind; ../shared/DOC.md tells each call. */
public final class CheatHeap {
    public static final int NONE = -1;

    private static final int FINE = 0;
    private static final int NO_TRAY = 1;
    private static final int NO_SUCH = 2;
    private static final int MISSING = 3;
    private static final int NO_PLACE = 4;
    private static final int BAD_NUMBER = 5;
    private static final int BELOW_ZERO = 6;
    private static final int TOO_MANY = 7;
    private static final int NOT_THERE = 8;
    private static final int CANNOT_BE = 9;
    private static final int FAULTY = 10;
    private static final int UNLIKE = 11;

    private static final int TRAYS = 4;
    private static final int TRAY_PLACES = 60;
    private static final int TAPE_BYTES = 900;
    private static final int FEED_BYTES = 20;
    private static final int ROUND_BYTES = 300;
    private static final int MARKS = 3;
    private static final int MAX_PLAYERS = 6;
    private static final int MAX_KINDS = 10;
    private static final int MAX_EACH = 8;
    private static final int MAX_MOST = 4;
    private static final int MAX_CARDS = MAX_KINDS * MAX_EACH;
    private static final int MAX_NAME = 8;
    private static final int SIXTEENTHS = 16;
    private static final int TURNS_AHEAD = 60;
    private static final int LAST_SEED = 9999;
    private static final int MOST_SEEDS = 20;

    private static final int UP = 0;
    private static final int DOWN = 1;
    private static final int SAME = 2;

    private static final int TRUE = 0;
    private static final int MIXED = 1;
    private static final int FALSE = 2;

    private int status = FINE;
    private long fractionTop = 0;
    private long fractionBottom = 1;
    private final Tray[] trays = new Tray[TRAYS];
    private final byte[] tape = new byte[TAPE_BYTES];
    private int taped = 0;
    private int faultKind = NONE;
    private int faultPlace = NONE;
    private final Game game = new Game();
    private final Game spare = new Game();
    private final Game[] marks = new Game[MARKS];
    private int marked = 0;
    private final TableReader tableReader = new TableReader();
    private final RoundReader roundReader = new RoundReader();
    private final Run run = new Run();
    private final Run trial = new Run();
    private boolean hasPlayed = false;

    public CheatHeap() {
        for (int i = 0; i < TRAYS; i++) {
            trays[i] = new Tray();
        }
        for (int i = 0; i < MARKS; i++) {
            marks[i] = new Game();
        }
    }

    public int status() {
        return status;
    }

    public long top() {
        return fractionTop;
    }

    public long bottom() {
        return fractionBottom;
    }

    // ---- TRAYS

    public boolean tray(int tray, int sort, int many) {
        Tray made = trayAt(tray);
        if (made == null || sort < 0 || sort > Tray.LAST_SORT) {
            return no(NO_TRAY);
        }
        if (many > TRAY_PLACES) {
            return no(BAD_NUMBER);
        }
        if (many < 0) {
            return no(BELOW_ZERO);
        }
        made.make(sort, many);
        return yes();
    }

    public boolean write(int tray, int place, long v) {
        Tray target = trayAt(tray);
        int wrong = placeStatus(target, place);
        if (target == null || wrong != FINE) {
            return no(wrong);
        }
        target.put(place, v);
        return yes();
    }

    public long read(int tray, int place) {
        Tray source = trayAt(tray);
        int wrong = placeStatus(source, place);
        if (source == null || wrong != FINE) {
            return none(wrong);
        }
        status = FINE;
        return source.get(place);
    }

    public boolean pour(int tray, int i, int to, int j, int many) {
        Tray source = trayAt(tray);
        Tray target = trayAt(to);
        if (source == null || target == null) {
            return no(NO_TRAY);
        }
        if (source.isMissing() || target.isMissing()) {
            return no(MISSING);
        }
        if (source.sort != target.sort) {
            return no(UNLIKE);
        }
        if (many < 0) {
            return no(BELOW_ZERO);
        }
        if (!source.hasPlaces(i, many) || !target.hasPlaces(j, many)) {
            return no(NO_PLACE);
        }
        target.copyFrom(source, i, j, many);
        return yes();
    }

    private Tray trayAt(int tray) {
        return tray >= 0 && tray < TRAYS ? trays[tray] : null;
    }

    private static int placeStatus(Tray tray, int place) {
        if (tray == null) {
            return NO_TRAY;
        }
        if (tray.isMissing()) {
            return MISSING;
        }
        return tray.hasPlaces(place, 1) ? FINE : NO_PLACE;
    }

    // ---- texts

    public int feed(int a, int b, int c, int d, int e) {
        if (taped + FEED_BYTES > TAPE_BYTES) {
            return NONE;
        }
        tapeInt(a);
        tapeInt(b);
        tapeInt(c);
        tapeInt(d);
        tapeInt(e);
        return taped;
    }

    private void tapeInt(int v) {
        for (int shift = 24; shift >= 0 && taped >= 0 && taped < TAPE_BYTES; shift -= 8) {
            tape[taped] = (byte) (v >> shift);
            taped++;
        }
    }

    public int table(int n) {
        if (n < 0 || n > taped) {
            return none(BAD_NUMBER);
        }
        boolean taken = tableReader.takes(tape, n);
        endReading(tableReader);
        if (!taken) {
            return none(FAULTY);
        }
        game.copyFrom(tableReader.game);
        return good(game.rules.players);
    }

    public int round(int n) {
        if (n < 0 || n > taped || n > ROUND_BYTES) {
            return none(BAD_NUMBER);
        }
        boolean taken = roundReader.takes(tape, n, game.rules);
        endReading(roundReader);
        if (!taken) {
            return none(FAULTY);
        }
        game.script.copyFrom(roundReader.script);
        return good(game.script.steps);
    }

    private void endReading(Reader reader) {
        taped = 0;
        faultKind = reader.fault;
        faultPlace = reader.place;
    }

    public int fault(int what) {
        if (what == 0) {
            return faultKind;
        }
        return what == 1 ? faultPlace : NONE;
    }

    public int many(int what) {
        Rules rules = game.rules;
        switch (what) {
            case 0:
                return good(rules.kinds);
            case 1:
                return good(rules.each);
            case 2:
                return good(rules.players);
            case 3:
                return good(rules.law);
            case 4:
                return good(rules.most);
            case 5:
                return good(game.kind);
            case 6:
                return rules.players == 0 ? none(NOT_THERE) : good(game.turn);
            case 7:
                return good(game.pile.cards);
            case 8:
                return good(game.open ? 1 : 0);
            case 9:
                return game.winner == NONE ? none(NOT_THERE) : good(game.winner);
            case 10:
                return good(game.pile.layings);
            default:
                return none(BAD_NUMBER);
        }
    }

    public int player(int player, int what) {
        if (!isPlayer(player)) {
            return none(NO_SUCH);
        }
        Hands hands = game.hands;
        switch (what) {
            case 0:
                return good(hands.lying.get(player));
            case 1:
                return good(hands.doubting.get(player));
            case 2:
                return good(hands.cards.get(player));
            case 3:
                return good(hands.shown.get(player));
            case 4:
                return good(hands.untrue.get(player));
            case 5:
                return good(hands.allLaidBy(player));
            default:
                return none(BAD_NUMBER);
        }
    }

    public int hand(int player, int kind) {
        if (!isPlayer(player) || !isKind(kind)) {
            return none(NO_SUCH);
        }
        return good(game.hands.heldBy(player, kind));
    }

    public int inGame(int kind) {
        return isKind(kind) ? good(game.rules.dealt.get(kind)) : none(NO_SUCH);
    }

    public int laying(int k, int what) {
        if (what < 0 || what > 3) {
            return none(BAD_NUMBER);
        }
        Pile pile = game.pile;
        if (k < 0 || k >= pile.layings) {
            return none(NOT_THERE);
        }
        switch (what) {
            case 0:
                return good(pile.layer.get(k));
            case 1:
                return good(pile.kindSaid.get(k));
            case 2:
                return good(pile.size.get(k));
            default:
                return good(pile.truth(k));
        }
    }

    public int cardOf(int k, int i) {
        Pile pile = game.pile;
        if (k < 0 || k >= pile.layings || i < 0 || i >= pile.size.get(k)) {
            return none(NOT_THERE);
        }
        return good(pile.kindOf(k, i));
    }

    public int copyHand(int player, int tray) {
        Tray target = trayAt(tray);
        if (target == null) {
            return none(NO_TRAY);
        }
        if (target.isMissing()) {
            return none(MISSING);
        }
        if (!isPlayer(player)) {
            return none(NO_SUCH);
        }
        int kinds = game.rules.kinds;
        if (!target.hasPlaces(0, kinds)) {
            return none(NO_PLACE);
        }
        for (int kind = 0; kind < kinds; kind++) {
            target.put(kind, game.hands.heldBy(player, kind));
        }
        return good(kinds);
    }

    // ---- the game

    public int lay(int a, int b, int c, int d) {
        if (!isKindOrNone(a) || !isKindOrNone(b) || !isKindOrNone(c) || !isKindOrNone(d)) {
            return none(NO_SUCH);
        }
        if (a == NONE || (b == NONE && c != NONE) || (c == NONE && d != NONE)) {
            return none(BAD_NUMBER);
        }
        game.clearWanted();
        game.want(a, 1);
        game.want(b, 1);
        game.want(c, 1);
        game.want(d, 1);
        if (game.wanted > game.rules.most) {
            return none(TOO_MANY);
        }
        if (game.open || game.winner != NONE || game.rules.players == 0 || !game.holdsWanted()) {
            return none(CANNOT_BE);
        }
        game.layWanted();
        return good(game.pile.cards);
    }

    public int leave() {
        if (!game.open) {
            return none(NOT_THERE);
        }
        game.letLie();
        return good(game.turn);
    }

    public int doubt(int player) {
        int wrong = doubterStatus(player);
        return wrong == FINE ? good(game.challenge(player)) : none(wrong);
    }

    public boolean bend(int player, int lies, int doubts) {
        if (!isPlayer(player)) {
            return no(NO_SUCH);
        }
        if (!isSixteenths(lies) || !isSixteenths(doubts)) {
            return no(BAD_NUMBER);
        }
        game.hands.lying.set(player, lies);
        game.hands.doubting.set(player, doubts);
        return yes();
    }

    private static boolean isSixteenths(int v) {
        return v >= 0 && v <= SIXTEENTHS;
    }

    // ---- what one can know

    public int known(int player, int kind) {
        if (!isPlayer(player) || !isKind(kind)) {
            return none(NO_SUCH);
        }
        return good(game.hands.knownTo(player, kind));
    }

    public int unknown(int player, int kind) {
        if (!isPlayer(player) || !isKindOrNone(kind)) {
            return none(NO_SUCH);
        }
        return good(kind == NONE ? game.allUnknownTo(player) : game.unknownTo(player, kind));
    }

    public int impossible(int player) {
        int wrong = doubterStatus(player);
        if (wrong != FINE) {
            return none(wrong);
        }
        return good(game.isImpossibleFor(player) ? 1 : 0);
    }

    public boolean blind(int player) {
        int wrong = doubterStatus(player);
        if (wrong != FINE) {
            return no(wrong);
        }
        return tell(game.trueWays(player), game.allWays(player));
    }

    public boolean honest(int player) {
        if (!isPlayer(player)) {
            return no(NO_SUCH);
        }
        return tell(game.hands.honestTop(player), game.hands.honestBottom(player));
    }

    public boolean belief(int player) {
        int wrong = doubterStatus(player);
        if (wrong != FINE) {
            return no(wrong);
        }
        long odds = game.trueWays(player);
        long otherOdds = game.allWays(player) - odds;
        long trust = game.hands.honestTop(game.turn);
        long distrust = game.hands.honestBottom(game.turn) - trust;
        return tell(odds * trust, odds * trust + otherOdds * distrust);
    }

    public boolean worth(int player) {
        int wrong = doubterStatus(player);
        if (wrong != FINE) {
            return no(wrong);
        }
        return tell(game.worthTop(player), game.allWays(player));
    }

    public int ready() {
        int players = game.rules.players;
        if (!game.open || players < 2) {
            return none(NOT_THERE);
        }
        int found = game.rules.playerAfter(game.turn, 1);
        for (int i = 2; i < players; i++) {
            int next = game.rules.playerAfter(game.turn, i);
            if (game.worthTop(next) * game.allWays(found) > game.worthTop(found) * game.allWays(next)) {
                found = next;
            }
        }
        return good(found);
    }

    public boolean heap(int player, int kind) {
        if (!isPlayer(player) || !isKind(kind)) {
            return no(NO_SUCH);
        }
        long own = game.hands.laidBy(player, kind);
        long others = game.pile.cards - game.hands.allLaidBy(player);
        long all = game.allUnknownTo(player);
        if (all == 0) {
            return tell(own, 1);
        }
        return tell(own * all + others * game.unknownTo(player, kind), all);
    }

    public int said(int player, int kind) {
        if (!isPlayer(player) || !isKind(kind)) {
            return none(NO_SUCH);
        }
        return good(game.pile.timesSaid(player, kind));
    }

    // ---- what falls to whom

    public int waits(int player) {
        return isPlayer(player) ? good(game.turnsAhead(player)) : none(NO_SUCH);
    }

    public int falls(int player, int r) {
        int wrong = forecastStatus(player, r);
        return wrong == FINE ? good(game.fallingKind(player, r)) : none(wrong);
    }

    public int honestly(int player, int r) {
        int wrong = forecastStatus(player, r);
        if (wrong != FINE) {
            return none(wrong);
        }
        game.foresee(player, r);
        return good(game.sumForeseen);
    }

    public int rid(int player) {
        if (!isPlayer(player)) {
            return none(NO_SUCH);
        }
        game.foresee(player, TURNS_AHEAD);
        return goodOrNotThere(game.ridBehind);
    }

    public int lastKind(int player) {
        if (!isPlayer(player)) {
            return none(NO_SUCH);
        }
        game.foresee(player, TURNS_AHEAD);
        return goodOrNotThere(game.ridBehind == NONE ? NONE : game.latestKind);
    }

    public int mustLie(int player) {
        if (!isPlayer(player)) {
            return none(NO_SUCH);
        }
        game.foresee(player, TURNS_AHEAD);
        return goodOrNotThere(game.firstLie);
    }

    public int soonest() {
        int found = NONE;
        int least = TURNS_AHEAD + 1;
        for (int p = 0; p < game.rules.players; p++) {
            game.foresee(p, TURNS_AHEAD);
            if (game.ridBehind != NONE && game.ridBehind < least) {
                least = game.ridBehind;
                found = p;
            }
        }
        return goodOrNotThere(found);
    }

    private int forecastStatus(int player, int r) {
        if (!isPlayer(player)) {
            return NO_SUCH;
        }
        return r < 0 || r > TURNS_AHEAD ? BAD_NUMBER : FINE;
    }

    // ---- what is best

    public int best(int d, int what) {
        if (!isSixteenths(d) || what < 0 || what > 1) {
            return none(BAD_NUMBER);
        }
        if (game.rules.players == 0) {
            return none(NOT_THERE);
        }
        int cards = game.hands.cards.get(game.turn);
        if (game.open || game.winner != NONE || cards == 0) {
            return none(CANNOT_BE);
        }
        int fit = game.hands.heldBy(game.turn, game.kind);
        int bestTrue = NONE;
        int bestOther = NONE;
        int least = NONE;
        for (int f = 0; f <= Math.min(game.rules.most, cards - fit); f++) {
            for (int t = Math.min(game.rules.most - f, fit); t >= 0; t--) {
                int mean = game.sixteenthsLeft(t, f, d);
                if (t + f > 0 && (least == NONE || mean < least)) {
                    least = mean;
                    bestTrue = t;
                    bestOther = f;
                }
            }
        }
        tell(least, SIXTEENTHS);
        return what == 0 ? bestTrue : bestOther;
    }

    public int sayer(int kind) {
        if (!isKind(kind)) {
            return none(NO_SUCH);
        }
        if (game.rules.players == 0) {
            return none(NOT_THERE);
        }
        int first = game.open ? 1 : 0;
        for (int i = first; i <= game.rules.kinds; i++) {
            if (game.rules.kindAfter(game.kind, i) == kind) {
                return good(game.rules.playerAfter(game.turn, i));
            }
        }
        return none(NOT_THERE);
    }

    public int has(int player) {
        if (!isPlayer(player)) {
            return none(NO_SUCH);
        }
        int set = 0;
        for (int kind = 0; kind < game.rules.kinds; kind++) {
            if (game.hands.heldBy(player, kind) > 0) {
                set |= 1 << kind;
            }
        }
        return good(set);
    }

    public int lies(int kind) {
        return isKind(kind) ? good(game.lyingOf(kind)) : none(NO_SUCH);
    }

    public boolean guess(int player, int kind, int n) {
        if (!isPlayer(player) || !isKind(kind)) {
            return no(NO_SUCH);
        }
        if (n < 0 || n > MAX_MOST) {
            return no(BAD_NUMBER);
        }
        int all = game.allUnknownTo(player);
        if (all < n) {
            return no(CANNOT_BE);
        }
        return tell(waysToTake(game.unknownTo(player, kind), n), waysToTake(all, n));
    }

    public int fullest() {
        int found = NONE;
        int most = NONE;
        for (int p = 0; p < game.rules.players; p++) {
            if (game.hands.cards.get(p) > most) {
                most = game.hands.cards.get(p);
                found = p;
            }
        }
        return goodOrNotThere(found);
    }

    public int quartet(int player) {
        if (!isPlayer(player)) {
            return none(NO_SUCH);
        }
        for (int kind = 0; kind < game.rules.kinds; kind++) {
            int all = game.rules.dealt.get(kind);
            if (all > 0 && game.hands.heldBy(player, kind) == all) {
                return good(kind);
            }
        }
        return none(NOT_THERE);
    }

    public int sorts(int what) {
        if (what < TRUE || what > FALSE) {
            return none(BAD_NUMBER);
        }
        int count = 0;
        for (int k = 0; k < game.pile.layings; k++) {
            if (game.pile.truth(k) == what) {
                count++;
            }
        }
        return good(count);
    }

    public int liar() {
        Hands hands = game.hands;
        int found = game.rules.players == 0 ? NONE : 0;
        for (int p = 1; p < game.rules.players; p++) {
            if (hands.honestTop(p) * hands.honestBottom(found) < hands.honestTop(found) * hands.honestBottom(p)) {
                found = p;
            }
        }
        return goodOrNotThere(found);
    }

    // ---- ROUNDS

    public int play(int seed) {
        if (seed < 0 || seed > LAST_SEED) {
            return none(BAD_NUMBER);
        }
        if (!game.script.isThere) {
            return none(NOT_THERE);
        }
        run.go(game, seed);
        hasPlayed = true;
        return good(run.steps);
    }

    public int played(int what) {
        if (what < 0 || what > 4) {
            return none(BAD_NUMBER);
        }
        if (!hasPlayed) {
            return none(NOT_THERE);
        }
        switch (what) {
            case 0:
                return good(run.missed);
            case 1:
                return good(run.layings);
            case 2:
                return good(run.doubts);
            case 3:
                return good(run.rightDoubts);
            default:
                return good(run.isCut ? 1 : 0);
        }
    }

    public boolean wins(int player, int seed, int many) {
        int wrong = seedsStatus(player, seed, many);
        if (wrong != FINE) {
            return no(wrong);
        }
        int won = 0;
        for (int i = 0; i < many; i++) {
            spare.copyFrom(game);
            trial.go(spare, seed + i);
            if (spare.winner == player) {
                won++;
            }
        }
        return tell(won, many);
    }

    public boolean left(int player, int seed, int many) {
        int wrong = seedsStatus(player, seed, many);
        if (wrong != FINE) {
            return no(wrong);
        }
        int cards = 0;
        for (int i = 0; i < many; i++) {
            spare.copyFrom(game);
            trial.go(spare, seed + i);
            cards += spare.hands.cards.get(player);
        }
        return tell(cards, many);
    }

    private int seedsStatus(int player, int seed, int many) {
        if (!isPlayer(player)) {
            return NO_SUCH;
        }
        if (seed < 0 || many < 1 || many > MOST_SEEDS || seed > LAST_SEED - many + 1) {
            return BAD_NUMBER;
        }
        return game.script.isThere ? FINE : NOT_THERE;
    }

    // ---- MARKS

    public int mark() {
        Game next = markAt(marked);
        if (next == null) {
            return none(TOO_MANY);
        }
        next.copyFrom(game);
        marked++;
        return good(marked);
    }

    public int back() {
        Game latest = markAt(marked - 1);
        if (latest == null) {
            return none(NOT_THERE);
        }
        game.copyFrom(latest);
        marked--;
        return good(marked);
    }

    private Game markAt(int i) {
        return i >= 0 && i < MARKS ? marks[i] : null;
    }

    // ---- answers

    private int good(int answer) {
        status = FINE;
        return answer;
    }

    private int none(int wrong) {
        status = wrong;
        return NONE;
    }

    private int goodOrNotThere(int answer) {
        return answer == NONE ? none(NOT_THERE) : good(answer);
    }

    private boolean yes() {
        status = FINE;
        return true;
    }

    private boolean no(int wrong) {
        status = wrong;
        return false;
    }

    private boolean tell(long over, long under) {
        long divisor = commonDivisor(Math.abs(over), under);
        if (over == 0 || under <= 0 || divisor <= 0) {
            fractionTop = 0;
            fractionBottom = 1;
        } else {
            fractionTop = over / divisor;
            fractionBottom = under / divisor;
        }
        return yes();
    }

    // a step halves the greater number at least, so 200 steps are more than a long can need
    private static long commonDivisor(long a, long b) {
        for (int i = 0; i < 200 && b != 0; i++) {
            long rest = a % b;
            a = b;
            b = rest;
        }
        return a;
    }

    private static long waysToTake(int all, int n) {
        if (n > all) {
            return 0;
        }
        long ways = 1;
        for (int i = 0; i < n; i++) {
            ways = ways * (all - i) / (i + 1);
        }
        return ways;
    }

    private boolean isPlayer(int player) {
        return player >= 0 && player < game.rules.players;
    }

    private boolean isKind(int kind) {
        return kind >= 0 && kind < game.rules.kinds;
    }

    private boolean isKindOrNone(int kind) {
        return kind == NONE || isKind(kind);
    }

    private int doubterStatus(int player) {
        if (!isPlayer(player)) {
            return NO_SUCH;
        }
        if (!game.open) {
            return NOT_THERE;
        }
        return player == game.turn ? BAD_NUMBER : FINE;
    }

    /** A row of small numbers whose every index is looked at; outside it all is 0. */
    private static final class Row {
        private final int[] cells;

        Row(int places) {
            cells = new int[Math.max(0, places)];
        }

        int get(int i) {
            return i >= 0 && i < cells.length ? cells[i] : 0;
        }

        void set(int i, int v) {
            if (i >= 0 && i < cells.length) {
                cells[i] = v;
            }
        }

        void add(int i, int v) {
            if (i >= 0 && i < cells.length) {
                cells[i] += v;
            }
        }

        int sum(int from, int n) {
            int sum = 0;
            for (int i = from; i < from + n; i++) {
                sum += get(i);
            }
            return sum;
        }

        void clear() {
            for (int i = 0; i < cells.length; i++) {
                cells[i] = 0;
            }
        }

        void copyFrom(Row other) {
            for (int i = 0; i < cells.length && i < other.cells.length; i++) {
                cells[i] = other.cells[i];
            }
        }
    }

    /** A row of numbers of one width; its places are made once and used again. */
    private static final class Tray {
        static final int LAST_SORT = 3;

        int sort = 0;
        private int places = NONE;
        private final long[] cells = new long[TRAY_PLACES];

        boolean isMissing() {
            return places == NONE;
        }

        boolean hasPlaces(int from, int n) {
            return n >= 0 && n <= places && from >= 0 && from <= places - n;
        }

        void make(int newSort, int n) {
            sort = newSort;
            places = Math.max(0, Math.min(n, TRAY_PLACES));
            for (int i = 0; i < TRAY_PLACES; i++) {
                cells[i] = 0;
            }
        }

        long get(int i) {
            return i >= 0 && i < TRAY_PLACES ? cells[i] : 0;
        }

        void put(int i, long v) {
            if (i >= 0 && i < TRAY_PLACES) {
                cells[i] = cut(v);
            }
        }

        private long cut(long v) {
            switch (sort) {
                case 0:
                    return (byte) v;
                case 1:
                    return (short) v;
                case 2:
                    return (int) v;
                default:
                    return v;
            }
        }

        // the two may be one: arraycopy takes the numbers as they were
        void copyFrom(Tray other, int from, int at, int n) {
            if (other.hasPlaces(from, n) && hasPlaces(at, n)) {
                System.arraycopy(other.cells, from, cells, at, n);
            }
        }
    }

    /** What a TABLE fixes for the whole game. */
    private static final class Rules {
        int kinds = 2;
        int each = 1;
        int law = UP;
        int most = MAX_MOST;
        int players = 0;
        final Row dealt = new Row(MAX_KINDS);
        private final Row names = new Row(MAX_PLAYERS * MAX_NAME);
        private final Row nameLength = new Row(MAX_PLAYERS);

        void reset() {
            kinds = 2;
            each = 1;
            law = UP;
            most = MAX_MOST;
            players = 0;
            dealt.clear();
        }

        void copyFrom(Rules other) {
            kinds = other.kinds;
            each = other.each;
            law = other.law;
            most = other.most;
            players = other.players;
            dealt.copyFrom(other.dealt);
            names.copyFrom(other.names);
            nameLength.copyFrom(other.nameLength);
        }

        int playerAfter(int player, int turns) {
            return players <= 0 ? 0 : Math.floorMod(player + turns, players);
        }

        // behind so many LAYINGS that are all LEFT
        int kindAfter(int kind, int turns) {
            if (law == SAME || kinds <= 0) {
                return kind;
            }
            return Math.floorMod(law == UP ? kind + turns : kind - turns, kinds);
        }

        int kindAfterDoubt(int kind) {
            return kinds <= 0 ? kind : Math.floorMod(law == DOWN ? kind - 1 : kind + 1, kinds);
        }

        void addPlayer(Reader reader) {
            if (players >= MAX_PLAYERS || reader.size() > MAX_NAME) {
                return;
            }
            for (int i = 0; i < reader.size(); i++) {
                names.set(players * MAX_NAME + i, reader.signAt(i));
            }
            nameLength.set(players, reader.size());
            players++;
        }

        int playerNamed(Reader reader) {
            for (int p = 0; p < players; p++) {
                if (isNamed(p, reader)) {
                    return p;
                }
            }
            return NONE;
        }

        private boolean isNamed(int player, Reader reader) {
            int length = nameLength.get(player);
            if (length != reader.size()) {
                return false;
            }
            for (int i = 0; i < length; i++) {
                if (names.get(player * MAX_NAME + i) != reader.signAt(i)) {
                    return false;
                }
            }
            return true;
        }
    }

    /** What the PLAYERS hold, what of theirs lies in the HEAP, how they play and what was SHOWN. */
    private static final class Hands {
        private final Row held = new Row(MAX_PLAYERS * MAX_KINDS);
        private final Row laid = new Row(MAX_PLAYERS * MAX_KINDS);
        final Row cards = new Row(MAX_PLAYERS);
        final Row lying = new Row(MAX_PLAYERS);
        final Row doubting = new Row(MAX_PLAYERS);
        final Row shown = new Row(MAX_PLAYERS);
        final Row untrue = new Row(MAX_PLAYERS);

        void reset() {
            held.clear();
            laid.clear();
            cards.clear();
            lying.clear();
            doubting.clear();
            shown.clear();
            untrue.clear();
        }

        void copyFrom(Hands other) {
            held.copyFrom(other.held);
            laid.copyFrom(other.laid);
            cards.copyFrom(other.cards);
            lying.copyFrom(other.lying);
            doubting.copyFrom(other.doubting);
            shown.copyFrom(other.shown);
            untrue.copyFrom(other.untrue);
        }

        int heldBy(int player, int kind) {
            return held.get(player * MAX_KINDS + kind);
        }

        int laidBy(int player, int kind) {
            return laid.get(player * MAX_KINDS + kind);
        }

        int allLaidBy(int player) {
            return laid.sum(player * MAX_KINDS, MAX_KINDS);
        }

        int knownTo(int player, int kind) {
            int at = player * MAX_KINDS + kind;
            return held.get(at) + laid.get(at);
        }

        void deal(int player, int kind, int n) {
            held.add(player * MAX_KINDS + kind, n);
            cards.add(player, n);
        }

        void moveToHeap(int player, int kind, int n) {
            deal(player, kind, -n);
            laid.add(player * MAX_KINDS + kind, n);
        }

        void takeHeap(int taker) {
            for (int p = 0; p < MAX_PLAYERS; p++) {
                for (int kind = 0; kind < MAX_KINDS; kind++) {
                    deal(taker, kind, laidBy(p, kind));
                }
            }
            laid.clear();
        }

        long honestTop(int player) {
            return shown.get(player) - untrue.get(player) + 1L;
        }

        long honestBottom(int player) {
            return shown.get(player) + 2L;
        }
    }

    /** The LAYINGS in the HEAP, the lowest first; the cards of each stand by KINDS. */
    private static final class Pile {
        int layings = 0;
        int cards = 0;
        final Row layer = new Row(MAX_CARDS);
        final Row kindSaid = new Row(MAX_CARDS);
        final Row size = new Row(MAX_CARDS);
        private final Row card = new Row(MAX_CARDS * MAX_MOST);

        void clear() {
            layings = 0;
            cards = 0;
        }

        void copyFrom(Pile other) {
            layings = other.layings;
            cards = other.cards;
            layer.copyFrom(other.layer);
            kindSaid.copyFrom(other.kindSaid);
            size.copyFrom(other.size);
            card.copyFrom(other.card);
        }

        void begin(int player, int kind) {
            layer.set(layings, player);
            kindSaid.set(layings, kind);
            size.set(layings, 0);
            layings++;
        }

        void add(int kind, int n) {
            int k = layings - 1;
            for (int i = 0; i < n; i++) {
                card.set(k * MAX_MOST + size.get(k), kind);
                size.add(k, 1);
                cards++;
            }
        }

        int kindOf(int k, int i) {
            return card.get(k * MAX_MOST + i);
        }

        int truth(int k) {
            int fit = 0;
            for (int i = 0; i < size.get(k); i++) {
                if (card.get(k * MAX_MOST + i) == kindSaid.get(k)) {
                    fit++;
                }
            }
            if (fit == size.get(k)) {
                return TRUE;
            }
            return fit == 0 ? FALSE : MIXED;
        }

        int topTruth() {
            return truth(layings - 1);
        }

        int topSize() {
            return size.get(layings - 1);
        }

        int timesSaid(int player, int kind) {
            int count = 0;
            for (int k = 0; k < layings; k++) {
                if (layer.get(k) == player && kindSaid.get(k) == kind) {
                    count++;
                }
            }
            return count;
        }
    }

    /** A TABLE with all that became of it, and its ROUND: what a MARK keeps. */
    private static final class Game {
        final Rules rules = new Rules();
        final Hands hands = new Hands();
        final Pile pile = new Pile();
        final Script script = new Script();
        int kind = 0;
        int turn = 0;
        int winner = NONE;
        boolean open = false;
        private final Row wants = new Row(MAX_KINDS);
        int wanted = 0;
        private final Row rest = new Row(MAX_KINDS);
        int sumForeseen = 0;
        int ridBehind = NONE;
        int latestKind = NONE;
        int firstLie = NONE;

        void reset() {
            rules.reset();
            hands.reset();
            pile.clear();
            script.clear();
            kind = 0;
            turn = 0;
            winner = NONE;
            open = false;
        }

        void copyFrom(Game other) {
            rules.copyFrom(other.rules);
            hands.copyFrom(other.hands);
            pile.copyFrom(other.pile);
            script.copyFrom(other.script);
            kind = other.kind;
            turn = other.turn;
            winner = other.winner;
            open = other.open;
        }

        void clearWanted() {
            wants.clear();
            wanted = 0;
        }

        void want(int ofKind, int n) {
            if (ofKind != NONE) {
                wants.add(ofKind, n);
                wanted += n;
            }
        }

        boolean holdsWanted() {
            for (int k = 0; k < rules.kinds; k++) {
                if (hands.heldBy(turn, k) < wants.get(k)) {
                    return false;
                }
            }
            return true;
        }

        void layWanted() {
            pile.begin(turn, kind);
            for (int k = 0; k < rules.kinds; k++) {
                hands.moveToHeap(turn, k, wants.get(k));
                pile.add(k, wants.get(k));
            }
            open = true;
        }

        void letLie() {
            open = false;
            winIfRid();
            kind = rules.kindAfter(kind, 1);
            turn = rules.playerAfter(turn, 1);
        }

        int challenge(int doubter) {
            boolean isTrue = pile.topTruth() == TRUE;
            int taker = isTrue ? doubter : turn;
            int next = isTrue ? turn : doubter;
            hands.shown.add(turn, 1);
            if (isTrue) {
                winIfRid();
            } else {
                hands.untrue.add(turn, 1);
            }
            hands.takeHeap(taker);
            pile.clear();
            open = false;
            kind = rules.kindAfterDoubt(kind);
            turn = next;
            return taker;
        }

        private void winIfRid() {
            if (hands.cards.get(turn) == 0) {
                winner = turn;
            }
        }

        int unknownTo(int player, int ofKind) {
            return rules.dealt.get(ofKind) - hands.knownTo(player, ofKind);
        }

        int allUnknownTo(int player) {
            int sum = 0;
            for (int k = 0; k < rules.kinds; k++) {
                sum += unknownTo(player, k);
            }
            return sum;
        }

        // UNKNOWN is counted here again, for calls go at most eight deep
        boolean isImpossibleFor(int player) {
            return rules.dealt.get(kind) - hands.knownTo(player, kind) < pile.topSize();
        }

        long trueWays(int player) {
            return waysToTake(unknownTo(player, kind), pile.topSize());
        }

        long allWays(int player) {
            return waysToTake(allUnknownTo(player), pile.topSize());
        }

        // the bottom of WORTH is allWays
        long worthTop(int player) {
            return pile.cards * (allWays(player) - 2 * trueWays(player));
        }

        int lyingOf(int ofKind) {
            int sum = 0;
            for (int p = 0; p < rules.players; p++) {
                sum += hands.laidBy(p, ofKind);
            }
            return sum;
        }

        int turnsAhead(int player) {
            int n = rules.playerAfter(player - turn, 0);
            return n == 0 && open ? rules.players : n;
        }

        int fallingKind(int player, int r) {
            return rules.kindAfter(kind, turnsAhead(player) + r * rules.players);
        }

        // what a PLAYER lays in so many TURNS if all is LEFT and it never lies
        void foresee(int player, int turns) {
            int cards = hands.cards.get(player);
            for (int k = 0; k < rules.kinds; k++) {
                rest.set(k, hands.heldBy(player, k));
            }
            sumForeseen = 0;
            ridBehind = cards == 0 ? 0 : NONE;
            latestKind = NONE;
            firstLie = NONE;
            for (int r = 0; r < turns && ridBehind == NONE; r++) {
                int falling = fallingKind(player, r);
                int n = Math.min(rest.get(falling), rules.most);
                rest.add(falling, -n);
                sumForeseen += n;
                if (n > 0) {
                    latestKind = falling;
                } else if (firstLie == NONE) {
                    firstLie = r;
                }
                if (sumForeseen == cards) {
                    ridBehind = r + 1;
                }
            }
        }

        // only a LAYING with cards of another KIND can come back to who laid it
        int sixteenthsLeft(int t, int f, int d) {
            int behind = hands.cards.get(turn) - t - f;
            return SIXTEENTHS * behind + (f > 0 ? d * (pile.cards + t + f) : 0);
        }
    }

    /** The lines of a ROUND; one with a body knows where its end stands, and an end where its head stands. */
    private static final class Script {
        static final int MAX_STEPS = 30;
        static final int MAX_LINES = 2 * MAX_STEPS;
        static final int TURN = 0;
        static final int LIES = 1;
        static final int DOUBTS = 2;
        static final int STOP = 3;
        static final int LOOP = 4;
        static final int WHEN_CARDS = 5;
        static final int WHEN_HEAP = 6;
        static final int WHEN_SHOWN = 7;
        static final int WHEN_WON = 8;
        static final int END = 9;

        boolean isThere = false;
        int steps = 0;
        int lines = 0;
        final Row action = new Row(MAX_LINES);
        final Row mate = new Row(MAX_LINES);
        final Row who = new Row(MAX_LINES);
        final Row comparison = new Row(MAX_LINES);
        final Row number = new Row(MAX_LINES);

        void clear() {
            isThere = false;
            steps = 0;
            lines = 0;
        }

        void copyFrom(Script other) {
            isThere = other.isThere;
            steps = other.steps;
            lines = other.lines;
            action.copyFrom(other.action);
            mate.copyFrom(other.mate);
            who.copyFrom(other.who);
            comparison.copyFrom(other.comparison);
            number.copyFrom(other.number);
        }

        // where it stands
        int add(int newAction) {
            action.set(lines, newAction);
            lines++;
            return lines - 1;
        }

        boolean meets(int at, int value) {
            int bound = number.get(at);
            int sign = comparison.get(at);
            if (sign == '<') {
                return value < bound;
            }
            return sign == '>' ? value > bound : value == bound;
        }

        static boolean isWhen(int action) {
            return action >= WHEN_CARDS && action <= WHEN_WON;
        }

        static boolean hasName(int action) {
            return action == LIES || action == DOUBTS || action == WHEN_CARDS || action == WHEN_SHOWN;
        }

        static boolean hasComparison(int action) {
            return isWhen(action) && action != WHEN_WON;
        }

        // NONE if it has no NUMBER
        static int highest(int action) {
            switch (action) {
                case LIES:
                case DOUBTS:
                    return SIXTEENTHS;
                case LOOP:
                    return 99;
                case WHEN_CARDS:
                case WHEN_HEAP:
                    return MAX_CARDS;
                case WHEN_SHOWN:
                    return 999;
                default:
                    return NONE;
            }
        }
    }

    /** The TOKENS of a text, one after the other, and the first FAULT. */
    private abstract static class Reader {
        static final int TEXT_END = 0;
        static final int WORD = 1;
        static final int NUMBER = 2;
        static final int SIGN = 3;
        static final int NO_TOKEN = 4;
        static final int MAX_DIGITS = 4;
        // a blank behind each word
        static final String RESERVED = "kinds each law most player lies doubts hand of up down same turn when cards heap won shown loop end stop ";

        private byte[] text = new byte[0];
        private int length = 0;
        private int begin = 0;
        private int end = 0;
        int type = TEXT_END;
        int value = 0;
        int fault = 0;
        int place = NONE;

        final void start(byte[] newText, int n) {
            text = newText;
            length = Math.max(0, Math.min(n, newText.length));
            end = 0;
            fault = 0;
            place = NONE;
            advance();
        }

        final void advance() {
            begin = end;
            while (begin < length && (signAt(0) == 10 || signAt(0) == 32)) {
                begin++;
            }
            end = begin;
            int first = signAt(0);
            if (begin >= length) {
                type = TEXT_END;
            } else if (first >= 'a' && first <= 'z') {
                type = WORD;
                end = endOfRun('a', 'z');
            } else if (first >= '0' && first <= '9') {
                end = endOfRun('0', '9');
                type = size() > MAX_DIGITS ? NO_TOKEN : NUMBER;
                value = 0;
                for (int i = 0; i < MAX_DIGITS && i < size(); i++) {
                    value = value * 10 + signAt(i) - '0';
                }
            } else {
                type = first == ';' || first == '<' || first == '>' || first == '=' ? SIGN : NO_TOKEN;
                end = begin + 1;
            }
        }

        private int endOfRun(int low, int high) {
            int at = begin;
            while (at < length && at < text.length && text[at] >= low && text[at] <= high) {
                at++;
            }
            return at;
        }

        final int size() {
            return end - begin;
        }

        // the i-th byte from the TOKEN's first on
        final int signAt(int i) {
            int at = begin + i;
            return at >= 0 && at < length && at < text.length ? text[at] : 0;
        }

        // what is no TOKEN is that ahead of all else
        final boolean fails(int kind) {
            fault = type == NO_TOKEN ? 1 : kind;
            place = begin;
            return false;
        }

        final boolean isWord(String word) {
            if (type != WORD || size() != word.length()) {
                return false;
            }
            for (int i = 0; i < word.length(); i++) {
                if (word.charAt(i) != signAt(i)) {
                    return false;
                }
            }
            return true;
        }

        private boolean isReserved() {
            int alike = 0;
            for (int i = 0; i < RESERVED.length(); i++) {
                char sign = RESERVED.charAt(i);
                if (sign == ' ') {
                    if (alike == size()) {
                        return true;
                    }
                    alike = 0;
                } else if (alike >= 0) {
                    alike = sign == signAt(alike) ? alike + 1 : NONE;
                }
            }
            return false;
        }

        final boolean mustBeName() {
            return (type == WORD && size() <= MAX_NAME && !isReserved()) || fails(2);
        }

        final boolean mustBeNumber(int low, int high) {
            if (type != NUMBER) {
                return fails(2);
            }
            return (value >= low && value <= high) || fails(4);
        }

        // a NAME that is a PLAYER: who, else NONE
        final int passPlayer(Rules rules) {
            if (!mustBeName()) {
                return NONE;
            }
            int player = rules.playerNamed(this);
            if (player == NONE) {
                fails(3);
                return NONE;
            }
            advance();
            return player;
        }

        // the number, NONE if it can't be
        final int passNumber(int low, int high) {
            if (!mustBeNumber(low, high)) {
                return NONE;
            }
            int passed = value;
            advance();
            return passed;
        }

        final boolean passWord(String word) {
            if (!isWord(word)) {
                return fails(2);
            }
            advance();
            return true;
        }

        final boolean passSemicolon() {
            if (type != SIGN || signAt(0) != ';') {
                return fails(2);
            }
            advance();
            return true;
        }
    }

    /** Reads a TABLE into a game of its own. */
    private static final class TableReader extends Reader {
        final Game game = new Game();
        private boolean isLawTold = false;
        private boolean isMostTold = false;
        private final Row toldKinds = new Row(MAX_PLAYERS);

        boolean takes(byte[] tape, int n) {
            game.reset();
            isLawTold = false;
            isMostTold = false;
            toldKinds.clear();
            start(tape, n);
            if (!readHead()) {
                return false;
            }
            for (int i = 0; i < TAPE_BYTES && type != TEXT_END; i++) {
                if (!readPart()) {
                    return false;
                }
            }
            return true;
        }

        private boolean readHead() {
            if (!passWord("kinds")) {
                return false;
            }
            int kinds = passNumber(2, MAX_KINDS);
            if (kinds == NONE || !passWord("each")) {
                return false;
            }
            int each = passNumber(1, MAX_EACH);
            if (each == NONE) {
                return false;
            }
            game.rules.kinds = kinds;
            game.rules.each = each;
            return passSemicolon();
        }

        private boolean readPart() {
            if (isWord("law")) {
                return readLaw();
            }
            if (isWord("most")) {
                return readMost();
            }
            if (isWord("player")) {
                return readPlayer();
            }
            return isWord("hand") ? readHand() : fails(2);
        }

        private boolean readLaw() {
            if (isLawTold) {
                return fails(5);
            }
            isLawTold = true;
            advance();
            if (isWord("up")) {
                game.rules.law = UP;
            } else if (isWord("down")) {
                game.rules.law = DOWN;
            } else if (isWord("same")) {
                game.rules.law = SAME;
            } else {
                return fails(2);
            }
            advance();
            return passSemicolon();
        }

        private boolean readMost() {
            if (isMostTold) {
                return fails(5);
            }
            isMostTold = true;
            advance();
            int most = passNumber(1, MAX_MOST);
            if (most == NONE) {
                return false;
            }
            game.rules.most = most;
            return passSemicolon();
        }

        private boolean readPlayer() {
            int player = game.rules.players;
            if (player >= MAX_PLAYERS) {
                return fails(6);
            }
            advance();
            if (!mustBeName()) {
                return false;
            }
            if (game.rules.playerNamed(this) != NONE) {
                return fails(3);
            }
            game.rules.addPlayer(this);
            advance();
            return readSixteenths("lies", game.hands.lying, player)
                && readSixteenths("doubts", game.hands.doubting, player)
                && passSemicolon();
        }

        // the word may be left out
        private boolean readSixteenths(String word, Row row, int player) {
            if (!isWord(word)) {
                return true;
            }
            advance();
            int sixteenths = passNumber(0, SIXTEENTHS);
            row.set(player, sixteenths);
            return sixteenths != NONE;
        }

        private boolean readHand() {
            advance();
            int player = passPlayer(game.rules);
            if (player == NONE) {
                return false;
            }
            int n = passNumber(0, MAX_EACH);
            if (n == NONE || !passWord("of") || !mustBeNumber(0, game.rules.kinds - 1)) {
                return false;
            }
            int kind = value;
            boolean isTold = (toldKinds.get(player) >> kind & 1) != 0;
            if (isTold || game.rules.dealt.get(kind) + n > game.rules.each) {
                return fails(5);
            }
            toldKinds.add(player, 1 << kind);
            game.rules.dealt.add(kind, n);
            game.hands.deal(player, kind, n);
            advance();
            return passSemicolon();
        }
    }

    /** Reads a ROUND into a script of its own. */
    private static final class RoundReader extends Reader {
        private static final int MAX_DEPTH = 3;

        final Script script = new Script();
        private final Row openAt = new Row(MAX_DEPTH);
        private int depth = 0;

        boolean takes(byte[] tape, int n, Rules rules) {
            script.clear();
            depth = 0;
            start(tape, n);
            for (int i = 0; i < ROUND_BYTES && type != TEXT_END; i++) {
                boolean isRead = isWord("end") ? readEnd() : readStep(rules);
                if (!isRead) {
                    return false;
                }
            }
            script.isThere = true;
            return depth == 0 || fails(2);
        }

        private boolean readEnd() {
            if (depth == 0) {
                return fails(2);
            }
            depth--;
            int head = openAt.get(depth);
            int at = script.add(Script.END);
            script.mate.set(at, head);
            script.mate.set(head, at);
            advance();
            return passSemicolon();
        }

        private boolean readStep(Rules rules) {
            int action = actionHere();
            if (action == NONE) {
                return fails(2);
            }
            if (script.steps >= Script.MAX_STEPS) {
                return fails(6);
            }
            boolean hasBody = action == Script.LOOP || Script.isWhen(action);
            if (hasBody && depth >= MAX_DEPTH) {
                return fails(7);
            }
            int at = script.add(action);
            script.steps++;
            if (hasBody) {
                openAt.set(depth, at);
                depth++;
            }
            advance();
            if (Script.isWhen(action) && !readTest(at)) {
                return false;
            }
            return readOperands(at, rules) && passSemicolon();
        }

        // which test a when has is told behind it
        private int actionHere() {
            if (isWord("turn")) {
                return Script.TURN;
            }
            if (isWord("lies")) {
                return Script.LIES;
            }
            if (isWord("doubts")) {
                return Script.DOUBTS;
            }
            if (isWord("stop")) {
                return Script.STOP;
            }
            if (isWord("loop")) {
                return Script.LOOP;
            }
            return isWord("when") ? Script.WHEN_WON : NONE;
        }

        private boolean readTest(int at) {
            if (isWord("cards")) {
                script.action.set(at, Script.WHEN_CARDS);
            } else if (isWord("heap")) {
                script.action.set(at, Script.WHEN_HEAP);
            } else if (isWord("shown")) {
                script.action.set(at, Script.WHEN_SHOWN);
            } else if (!isWord("won")) {
                return fails(2);
            }
            advance();
            return true;
        }

        private boolean readOperands(int at, Rules rules) {
            int action = script.action.get(at);
            if (Script.hasName(action)) {
                int player = passPlayer(rules);
                if (player == NONE) {
                    return false;
                }
                script.who.set(at, player);
            }
            if (Script.hasComparison(action)) {
                int sign = signAt(0);
                if (type != SIGN || sign == ';') {
                    return fails(2);
                }
                script.comparison.set(at, sign);
                advance();
            }
            int highest = Script.highest(action);
            if (highest == NONE) {
                return true;
            }
            int number = passNumber(action == Script.LOOP ? 1 : 0, highest);
            script.number.set(at, number);
            return number != NONE;
        }
    }

    /** Plays a ROUND on a game, and counts what came of it. */
    private static final class Run {
        private static final int MOST_STEPS = 300;
        private static final int MOST_MOVES = 1000000;

        int steps = 0;
        int missed = 0;
        int layings = 0;
        int doubts = 0;
        int rightDoubts = 0;
        boolean isCut = false;
        private int state = 0;
        private final Row timesLeft = new Row(Script.MAX_LINES);

        void go(Game game, int seed) {
            steps = 0;
            missed = 0;
            layings = 0;
            doubts = 0;
            rightDoubts = 0;
            isCut = false;
            state = seed;
            Script script = game.script;
            int at = 0;
            for (int i = 0; i < MOST_MOVES && at < script.lines && !isCut; i++) {
                if (script.action.get(at) == Script.END) {
                    at = behindEnd(script, at);
                } else if (steps == MOST_STEPS) {
                    isCut = true;
                } else {
                    steps++;
                    at = behindStep(game, at);
                }
            }
        }

        private int behindEnd(Script script, int at) {
            int head = script.mate.get(at);
            if (script.action.get(head) == Script.LOOP) {
                timesLeft.add(head, -1);
                if (timesLeft.get(head) > 0) {
                    return head + 1;
                }
            }
            return at + 1;
        }

        private int behindStep(Game game, int at) {
            Script script = game.script;
            Hands hands = game.hands;
            int who = script.who.get(at);
            int number = script.number.get(at);
            int behindBody = script.mate.get(at) + 1;
            switch (script.action.get(at)) {
                case Script.TURN:
                    takeTurn(game);
                    return at + 1;
                case Script.LIES:
                    hands.lying.set(who, number);
                    return at + 1;
                case Script.DOUBTS:
                    hands.doubting.set(who, number);
                    return at + 1;
                case Script.LOOP:
                    timesLeft.set(at, number);
                    return at + 1;
                case Script.WHEN_CARDS:
                    return script.meets(at, hands.cards.get(who)) ? at + 1 : behindBody;
                case Script.WHEN_HEAP:
                    return script.meets(at, game.pile.cards) ? at + 1 : behindBody;
                case Script.WHEN_SHOWN:
                    return script.meets(at, hands.shown.get(who)) ? at + 1 : behindBody;
                case Script.WHEN_WON:
                    return game.winner != NONE ? at + 1 : behindBody;
                default:
                    return script.lines;
            }
        }

        private void takeTurn(Game game) {
            if (game.open) {
                game.letLie();
            }
            if (game.winner != NONE || game.rules.players < 2 || game.hands.cards.get(game.turn) == 0) {
                missed++;
                return;
            }
            choose(game);
            game.layWanted();
            layings++;
            int doubter = firstDoubter(game);
            if (doubter == NONE) {
                game.letLie();
                return;
            }
            doubts++;
            if (game.pile.topTruth() != TRUE) {
                rightDoubts++;
            }
            game.challenge(doubter);
        }

        private void choose(Game game) {
            int have = game.hands.heldBy(game.turn, game.kind);
            int n = Math.min(have, game.rules.most);
            game.clearWanted();
            game.want(game.kind, n);
            boolean canLie = n < game.rules.most && game.hands.cards.get(game.turn) > have;
            if (canLie && (have == 0 || draw() < game.hands.lying.get(game.turn))) {
                game.want(fullestOther(game), 1);
            }
        }

        private static int fullestOther(Game game) {
            int found = NONE;
            int most = 0;
            for (int kind = 0; kind < game.rules.kinds; kind++) {
                int n = game.hands.heldBy(game.turn, kind);
                if (kind != game.kind && n > most) {
                    most = n;
                    found = kind;
                }
            }
            return found;
        }

        private int firstDoubter(Game game) {
            for (int i = 1; i < game.rules.players; i++) {
                int player = game.rules.playerAfter(game.turn, i);
                if (game.isImpossibleFor(player) || draw() < game.hands.doubting.get(player)) {
                    return player;
                }
            }
            return NONE;
        }

        private int draw() {
            state = (state * 2861 + 10259) % 65536;
            return state / 8 % 16;
        }
    }
}
