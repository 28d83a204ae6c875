import java.util.ArrayDeque;
import java.util.ArrayList;
import java.util.Arrays;
import java.util.Deque;
import java.util.List;
import java.util.TreeSet;

/** A second, plain writing of the document, with other means, against which the class is held. */
final class Model {
    static final int NONE = -1000000, BAD = -1000001, STATE = -1000002, FULL = -1000003;

    enum How { LIVES, FADES, DEAD }

    /** Where the bodies of asks leave their numbers. */
    static final class Trace {
        final List<Integer> numbers = new ArrayList<>();

        void leave(int number) {
            if (numbers.size() < 16) {
                numbers.add(number);
            }
        }
    }

    abstract static class Player {
        int number, slow, left, saw;
        Integer seat;
        How how = How.LIVES;

        abstract Player fresh();

        abstract Integer looksNext(Round round);

        int size(Trace trace) {
            trace.leave(10);
            return slow;
        }

        int mark(Trace trace) {
            trace.leave(20);
            return number;
        }

        Player turnedInto(Player other) {
            other.number = number;
            other.slow = slow;
            other.left = left;
            other.saw = saw;
            other.seat = seat;
            other.how = how;
            return other;
        }
    }

    static class Rover extends Player {
        Player fresh() {
            return new Rover();
        }

        int step() {
            return 1;
        }

        Integer looksNext(Round round) {
            int many = round.players.size();
            int next = seat == null ? number : seat;
            do {
                next = Math.floorMod(next + step(), many);
            } while (next == number);
            return next;
        }

        int size(Trace trace) {
            trace.leave(11);
            return super.size(trace) + mark(trace);
        }

        int mark(Trace trace) {
            trace.leave(21);
            return super.mark(trace) + saw;
        }
    }

    static final class Starer extends Rover {
        Player fresh() {
            return new Starer();
        }

        Integer looksNext(Round round) {
            return seat;
        }

        int size(Trace trace) {
            trace.leave(12);
            return -super.size(trace);
        }

        int mark(Trace trace) {
            trace.leave(24);
            return 2 * super.mark(trace);
        }
    }

    static final class Backer extends Rover {
        Player fresh() {
            return new Backer();
        }

        int step() {
            return -1;
        }

        int mark(Trace trace) {
            trace.leave(22);
            return super.mark(trace) - 1000;
        }
    }

    static class Shy extends Player {
        Player fresh() {
            return new Shy();
        }

        Integer looksNext(Round round) {
            int many = round.players.size();
            for (int d = 1; d < many; d++) {
                Player other = round.players.get((number + d) % many);
                if (other.how != How.DEAD) {
                    return other.number;
                }
            }
            return null;
        }

        int size(Trace trace) {
            trace.leave(13);
            return super.size(trace) - 100;
        }

        int mark(Trace trace) {
            trace.leave(23);
            return super.mark(trace) - size(trace);
        }
    }

    static final class Dozer extends Shy {
        Player fresh() {
            return new Dozer();
        }

        Integer looksNext(Round round) {
            return (round.tick & 1) == 0 ? super.looksNext(round) : null;
        }

        int size(Trace trace) {
            trace.leave(14);
            return 2 * super.size(trace);
        }
    }

    private static final Class<?>[] KINDS =
        {Player.class, Rover.class, Starer.class, Backer.class, Shy.class, Dozer.class};

    private static Player ofKind(int kind) {
        switch (kind) {
            case 1: return new Rover();
            case 2: return new Starer();
            case 3: return new Backer();
            case 4: return new Shy();
            default: return new Dozer();
        }
    }

    /** A circle at one time. */
    static final class Round {
        final List<Player> players = new ArrayList<>();
        final TreeSet<Integer> asleep = new TreeSet<>();
        int murderer, proof, tick;
        boolean found;

        Round twin() {
            Round twin = new Round();
            for (Player p : players) {
                twin.players.add(p.turnedInto(p.fresh()));
            }
            twin.asleep.addAll(asleep);
            twin.murderer = murderer;
            twin.proof = proof;
            twin.tick = tick;
            twin.found = found;
            return twin;
        }

        Round later(int n) {
            Round then = twin();
            for (int t = 0; t < n; t++) {
                then.pass();
            }
            return then;
        }

        void pass() {
            List<Integer> seats = new ArrayList<>();
            for (Player p : players) {
                boolean blind = p.how == How.DEAD || asleep.contains(p.number);
                seats.add(blind ? null : p.looksNext(this));
            }
            for (Player p : players) {
                p.seat = seats.get(p.number);
            }
            wink(players.get(murderer));
            for (Player p : players) {
                if (p.how == How.FADES && --p.left == 0) {
                    p.how = How.DEAD;
                    p.seat = null;
                }
            }
            tick++;
        }

        private void wink(Player winker) {
            if (found || winker.how == How.DEAD || winker.seat == null) {
                return;
            }
            Player victim = players.get(winker.seat);
            if (victim.how != How.LIVES || victim.seat == null || victim.seat != winker.number) {
                return;
            }
            victim.how = How.FADES;
            victim.left = victim.slow + 1;
            for (Player p : players) {
                boolean sees = p.seat != null && p.seat == winker.number && p.how != How.DEAD;
                if (sees && p != victim && p != winker) {
                    p.saw = Math.min(99, p.saw + 1);
                    found |= p.saw >= proof;
                }
            }
        }

        void newMurderer(int player) {
            murderer = player;
            found = false;
            players.forEach(p -> p.saw = 0);
        }

        void sitUp(int player) {
            Player p = players.get(player);
            p.how = How.LIVES;
            p.saw = 0;
            p.seat = (player + 1) % players.size();
        }

        int bits(How how) {
            return players.stream().filter(p -> p.how == how).mapToInt(p -> 1 << p.number).sum();
        }

        int dead() {
            return Integer.bitCount(bits(How.DEAD));
        }

        int seen() {
            return players.stream().mapToInt(p -> p.saw).sum();
        }
    }

    private static final class Fault extends RuntimeException {
        private static final long serialVersionUID = 1L;
        final int number, place;

        Fault(int number, int place) {
            this.number = number;
            this.place = place;
        }
    }

    /** One token: a letter or sign, 'n' with a number's value, '?' for what is none, '$' for the end. */
    private record Token(char what, int value, int place) { }

    private final long[][] rows = new long[8][];
    private final int[] lanes = new int[8];
    private final StringBuilder tape = new StringBuilder();
    private final Deque<Round> acts = new ArrayDeque<>();
    private final Round[] images = new Round[2];
    private Trace trace = new Trace();
    private Round now;
    private int fault, status;

    private static boolean in(int v, int least, int most) {
        return least <= v && v <= most;
    }

    private boolean has(int player) {
        return now != null && in(player, 0, now.players.size() - 1);
    }

    private int told(int finding) {
        status = finding;
        return -1000010 - finding;
    }

    private int fine(int answer) {
        status = 0;
        return answer;
    }

    private void act() {
        acts.addLast(now.twin());
        if (acts.size() > 24) {
            acts.removeFirst();
        }
    }

    private static int seatOrNone(Player p) {
        return p.seat == null ? NONE : p.seat;
    }

    public int row(int row, int lane, int n) {
        if (!in(row, 0, 7) || !in(lane, 0, 2) || n > 40) {
            return BAD;
        }
        if (n < 0) {
            return told(4);
        }
        rows[row] = new long[n];
        lanes[row] = lane;
        return fine(n);
    }

    public int set(int row, int i, int v) {
        if (!in(row, 0, 7)) {
            return BAD;
        }
        if (rows[row] == null) {
            return told(1);
        }
        if (!in(i, 0, rows[row].length - 1)) {
            return told(2);
        }
        int spare = lanes[row] == 0 ? 24 : lanes[row] == 1 ? 16 : 0;
        rows[row][i] = v << spare >> spare;
        return fine((int) rows[row][i]);
    }

    public int copy(int a, int i, int b, int j, int n) {
        if (!in(a, 0, 7) || !in(b, 0, 7)) {
            return BAD;
        }
        if (rows[a] == null || rows[b] == null) {
            return told(1);
        }
        if (lanes[a] != lanes[b]) {
            return told(5);
        }
        if (i < 0 || j < 0 || n < 0 || (long) i + n > rows[a].length || (long) j + n > rows[b].length) {
            return told(2);
        }
        long[] ahead = rows[a].clone();
        for (int k = 0; k < n; k++) {
            rows[b][j + k] = ahead[i + k];
        }
        return fine(n);
    }

    public int drop(int row) {
        if (!in(row, 0, 7)) {
            return BAD;
        }
        if (rows[row] == null) {
            return told(1);
        }
        int had = rows[row].length;
        rows[row] = null;
        return fine(had);
    }

    public int feed(int letter) {
        if (!in(letter, 0, 255)) {
            return BAD;
        }
        if (tape.length() == 100) {
            return FULL;
        }
        tape.append((char) letter);
        return tape.length();
    }

    private static List<Token> tokens(String text) {
        List<Token> tokens = new ArrayList<>();
        int i = 0;
        while (i < text.length()) {
            char c = text.charAt(i);
            int end = i;
            while (end < text.length() && text.charAt(end) >= '0' && text.charAt(end) <= '9') {
                end++;
            }
            if (end - i > 2) {
                tokens.add(new Token('?', 0, i));
                i = end;
            } else if (end > i) {
                tokens.add(new Token('0', Integer.parseInt(text.substring(i, end)), i));
                i = end;
            } else {
                boolean known = c >= 'a' && c <= 'z' || c == ',' || c == ';';
                tokens.add(new Token(known ? c : '?', 0, i));
                i++;
            }
        }
        tokens.add(new Token('$', 0, text.length()));
        return tokens;
    }

    private static void sign(Deque<Token> left, char due) {
        Token token = left.removeFirst();
        if (token.what() != due) {
            throw new Fault(1, token.place());
        }
    }

    private static int number(Deque<Token> left, int least, int most) {
        Token token = left.removeFirst();
        if (token.what() != '0') {
            throw new Fault(1, token.place());
        }
        if (!in(token.value(), least, most)) {
            throw new Fault(2, token.place());
        }
        return token.value();
    }

    private static Round parse(String text) {
        Deque<Token> left = new ArrayDeque<>(tokens(text));
        Round round = new Round();
        sign(left, 'w');
        round.murderer = number(left, 0, 7);
        sign(left, ',');
        round.proof = number(left, 1, 9);
        sign(left, ';');
        while (left.getFirst().what() != '$' || round.players.size() < 3) {
            Token token = left.removeFirst();
            int kind = "?rsbhd".indexOf(token.what());
            if (kind < 1) {
                throw new Fault(1, token.place());
            }
            if (round.players.size() == 8) {
                throw new Fault(3, token.place());
            }
            Player p = ofKind(kind);
            p.number = round.players.size();
            p.seat = number(left, 0, 7);
            sign(left, ',');
            p.slow = number(left, 1, 9);
            sign(left, ';');
            round.players.add(p);
        }
        int many = round.players.size();
        round.murderer = Math.min(round.murderer, many - 1);
        for (Player p : round.players) {
            if (p.seat >= many || p.seat == p.number) {
                p.seat = (p.number + 1) % many;
            }
        }
        return round;
    }

    public int circle() {
        String text = tape.toString();
        tape.setLength(0);
        try {
            now = parse(text);
        } catch (Fault found) {
            fault = found.number;
            return -1000100 - found.place;
        }
        acts.clear();
        return now.players.size();
    }

    public int fault() {
        return fault;
    }

    public int undo() {
        if (acts.isEmpty()) {
            return STATE;
        }
        now = acts.removeLast();
        return acts.size();
    }

    public int ticks(int n) {
        if (now == null) {
            return STATE;
        }
        if (!in(n, 1, 24)) {
            return BAD;
        }
        if (now.tick + n > 999) {
            return FULL;
        }
        for (int t = 0; t < n; t++) {
            act();
            now.pass();
        }
        return now.bits(How.DEAD);
    }

    public int turnHead(int player, int seat) {
        if (!has(player) || !has(seat) || player == seat) {
            return BAD;
        }
        Player p = now.players.get(player);
        int was = seatOrNone(p);
        if (p.how == How.DEAD || was == seat) {
            return STATE;
        }
        act();
        now.players.get(player).seat = seat;
        return was;
    }

    public int role(int player) {
        if (!has(player)) {
            return BAD;
        }
        int was = now.murderer;
        if (was == player) {
            return STATE;
        }
        act();
        now.newMurderer(player);
        return was;
    }

    public int proof(int v) {
        if (now == null) {
            return STATE;
        }
        if (!in(v, 1, 9)) {
            return BAD;
        }
        act();
        int was = now.proof;
        now.proof = v;
        return was;
    }

    public int rise(int player) {
        if (!has(player)) {
            return BAD;
        }
        if (now.players.get(player).how != How.DEAD) {
            return STATE;
        }
        act();
        now.sitUp(player);
        return now.bits(How.DEAD);
    }

    public int player(int player, int what) {
        if (!has(player) || !in(what, 0, 5)) {
            return BAD;
        }
        Player p = now.players.get(player);
        int lookers = 0;
        for (Player q : now.players) {
            lookers |= q.seat != null && q.seat == player ? 1 << q.number : 0;
        }
        int left = p.how == How.FADES ? p.left : 0;
        return new int[] {p.how.ordinal(), seatOrNone(p), p.slow, left, p.saw, lookers}[what];
    }

    public int stand(int what) {
        if (now == null) {
            return STATE;
        }
        if (!in(what, 0, 6)) {
            return BAD;
        }
        return new int[] {now.players.size(), now.murderer, now.proof, now.found ? 1 : 0,
            now.bits(How.LIVES), now.bits(How.FADES), now.bits(How.DEAD)}[what];
    }

    public int ahead(int player, int n, int what) {
        if (!has(player) || !in(n, 0, 60) || !in(what, 0, 2)) {
            return BAD;
        }
        Player p = now.later(n).players.get(player);
        return new int[] {p.how.ordinal(), seatOrNone(p), p.saw}[what];
    }

    public int toll(int n, int what) {
        if (now == null) {
            return STATE;
        }
        if (!in(n, 0, 60) || !in(what, 0, 1)) {
            return BAD;
        }
        Round then = now.later(n);
        return what == 0 ? then.bits(How.DEAD) : then.found ? 1 : 0;
    }

    public int when(int player, int how) {
        if (!has(player) || !in(how, 1, 2)) {
            return BAD;
        }
        Round then = now;
        for (int n = 0; n <= 60; n++) {
            How is = then.players.get(player).how;
            if (is == How.DEAD || how == 1 && is == How.FADES) {
                return n;
            }
            then = then.later(1);
        }
        return NONE;
    }

    public int out() {
        if (now == null) {
            return STATE;
        }
        Round then = now;
        for (int n = 0; n <= 60; n++) {
            if (then.found) {
                return n;
            }
            then = then.later(1);
        }
        return NONE;
    }

    public int meet(int a, int b) {
        if (!has(a) || !has(b) || a == b) {
            return BAD;
        }
        Round then = now;
        for (int n = 0; n <= 60; n++) {
            if (seatOrNone(then.players.get(a)) == b && seatOrNone(then.players.get(b)) == a) {
                return n;
            }
            then = then.later(1);
        }
        return NONE;
    }

    private Round withMurderer(int player) {
        Round other = now.twin();
        if (other.murderer != player) {
            other.newMurderer(player);
        }
        return other;
    }

    private static Round withSeat(Round round, int player, int seat) {
        Round other = round.twin();
        other.players.get(player).seat = seat;
        return other;
    }

    public int bestRole(int n, int what) {
        if (now == null) {
            return STATE;
        }
        if (!in(n, 1, 40) || !in(what, 0, 1)) {
            return BAD;
        }
        int[] dead = new int[now.players.size()];
        for (int p = 0; p < dead.length; p++) {
            dead[p] = withMurderer(p).later(n).dead();
        }
        return firstGreatest(dead, what);
    }

    private static int firstGreatest(int[] values, int what) {
        int most = Arrays.stream(values).max().getAsInt();
        int at = 0;
        while (values[at] != most) {
            at++;
        }
        return what == 0 ? at : most;
    }

    public int glance(int n, int what) {
        if (now == null) {
            return STATE;
        }
        if (!in(n, 1, 40) || !in(what, 0, 1)) {
            return BAD;
        }
        if (now.players.get(now.murderer).how == How.DEAD) {
            return NONE;
        }
        int[] dead = new int[now.players.size()];
        for (int seat = 0; seat < dead.length; seat++) {
            dead[seat] = seat == now.murderer ? -1 : withSeat(now, now.murderer, seat).later(n).dead();
        }
        return firstGreatest(dead, what);
    }

    public int pass(int n) {
        if (now == null) {
            return STATE;
        }
        if (!in(n, 1, 40)) {
            return BAD;
        }
        for (int v = 1; v <= 9; v++) {
            Round other = now.twin();
            other.proof = v;
            if (!other.later(n).found) {
                return v;
            }
        }
        return NONE;
    }

    public int sets(int v, int what) {
        if (now == null) {
            return STATE;
        }
        if (!in(v, 0, 99) || !in(what, 0, 2)) {
            return BAD;
        }
        List<Integer> fitting = new ArrayList<>();
        gather(0, 0, v, fitting);
        int all = fitting.isEmpty() ? 0 : 255;
        int any = 0;
        for (int set : fitting) {
            all &= set;
            any |= set;
        }
        return what == 0 ? fitting.size() : what == 1 ? all : any;
    }

    private void gather(int player, int set, int left, List<Integer> fitting) {
        if (player == now.players.size()) {
            if (left == 0) {
                fitting.add(set);
            }
            return;
        }
        Player p = now.players.get(player);
        gather(player + 1, set, left, fitting);
        if (p.how != How.DEAD) {
            gather(player + 1, set | 1 << player, left - p.saw, fitting);
        }
    }

    public int share(int player, int n) {
        if (!has(player) || !in(n, 0, 999)) {
            return BAD;
        }
        int all = now.seen();
        if (all == 0) {
            return 0;
        }
        int[] gets = new int[now.players.size()];
        int over = n;
        for (Player p : now.players) {
            gets[p.number] = n * p.saw / all;
            over -= gets[p.number];
        }
        for (Player p : now.players) {
            if (over > 0 && p.saw > 0) {
                gets[p.number]++;
                over--;
            }
        }
        return gets[player];
    }

    public int byTurns(int n, int m) {
        if (now == null) {
            return STATE;
        }
        if (!in(n, 0, 3) || !in(m, 1, 20)) {
            return BAD;
        }
        return turns(now, 0, n, m);
    }

    private static int turns(Round round, int done, int n, int m) {
        if (done == n) {
            return round.later(m).dead();
        }
        int head = (round.murderer + done % 2) % round.players.size();
        List<Integer> outcomes = new ArrayList<>();
        outcomes.add(turns(round, done + 1, n, m));
        if (round.players.get(head).how != How.DEAD) {
            for (int seat = 0; seat < round.players.size(); seat++) {
                if (seat != head) {
                    outcomes.add(turns(withSeat(round, head, seat), done + 1, n, m));
                }
            }
        }
        return done % 2 == 0 ? outcomes.stream().max(Integer::compare).get()
            : outcomes.stream().min(Integer::compare).get();
    }

    public int who(int player, int which, int row, int i, int n) {
        if (!has(player) || !in(which, 0, 3) || !in(row, 0, 7) || !in(n, 1, 12)) {
            return BAD;
        }
        if (which == 2 && now.players.get(player).how == How.DEAD) {
            return STATE;
        }
        if (rows[row] == null) {
            return told(1);
        }
        if (i < 0 || (long) i + n > rows[row].length) {
            return told(2);
        }
        long[] due = Arrays.copyOfRange(rows[row], i, i + n);
        int many = now.players.size();
        int bits = 0;
        for (int v = 0; v <= 9; v++) {
            Round other = null;
            if (which == 0 && v < many) {
                other = withMurderer(v);
            } else if (which == 1 && in(v, 1, 5)) {
                other = now.twin();
                other.players.set(player, other.players.get(player).turnedInto(ofKind(v)));
            } else if (which == 2 && v < many && v != player) {
                other = withSeat(now, player, v);
            } else if (which == 3 && v > 0) {
                other = now.twin();
                other.players.get(player).slow = v;
            }
            if (other != null && fits(other, due)) {
                bits |= 1 << v;
            }
        }
        return fine(bits);
    }

    private static boolean fits(Round round, long[] due) {
        for (int t = 0; t < due.length; t++) {
            if (round.later(t + 1).dead() != due[t]) {
                return false;
            }
        }
        return true;
    }

    public long sleep(int n, int p, int what) {
        if (now == null) {
            return STATE;
        }
        if (!in(n, 0, 60) || !in(p, 0, 10) || !in(what, 0, 1)) {
            return BAD;
        }
        long[] fraction = new long[2];
        nap(now.twin(), 0, 1, n, p, fraction);
        long by = gcd(fraction[0], fraction[1]);
        return fraction[what] / by;
    }

    private static long gcd(long a, long b) {
        return b == 0 ? a : gcd(b, a % b);
    }

    private static void nap(Round round, int player, long cases, int n, int p, long[] fraction) {
        if (player == round.players.size()) {
            fraction[1] += cases;
            fraction[0] += round.later(n).found ? cases : 0;
            return;
        }
        Player one = round.players.get(player);
        if (one.how == How.DEAD || player == round.murderer) {
            nap(round, player + 1, cases, n, p, fraction);
            return;
        }
        nap(round, player + 1, cases * (10 - p), n, p, fraction);
        Round other = round.twin();
        other.asleep.add(player);
        other.players.get(player).seat = null;
        nap(other, player + 1, cases * p, n, p, fraction);
    }

    public int drawn(int n, int seed, int what) {
        if (now == null) {
            return STATE;
        }
        if (!in(n, 0, 60) || !in(seed, 1, 999999) || !in(what, 0, 1)) {
            return BAD;
        }
        Round game = now.twin();
        int many = game.players.size();
        int died = 0;
        int out = 0;
        long x = seed;
        for (int t = 0; t < n; t++) {
            x = x * 16807 % 2147483647;
            Player p = game.players.get((int) (x % many));
            int seat = (int) (x / 8 % many);
            if (p.how == How.DEAD) {
                game.sitUp(p.number);
            } else if (x % 3 == 0 && seat != p.number) {
                p.seat = seat;
            }
            if (game.found) {
                game.newMurderer(p.number);
            }
            int before = game.bits(How.DEAD);
            game.pass();
            died += Integer.bitCount(game.bits(How.DEAD) & ~before);
            out += game.found ? 1 : 0;
        }
        return what == 0 ? died : out;
    }

    public int image(int k) {
        if (!in(k, 0, 1)) {
            return BAD;
        }
        if (now == null) {
            return STATE;
        }
        images[k] = now.twin();
        return 1;
    }

    public int restore(int k) {
        if (!in(k, 0, 1)) {
            return BAD;
        }
        if (images[k] == null) {
            return STATE;
        }
        now = images[k].twin();
        acts.clear();
        return 1;
    }

    public int kind(int one) {
        return has(one) ? Arrays.asList(KINDS).indexOf(now.players.get(one).getClass()) : BAD;
    }

    public int as(int one, int kind) {
        if (!has(one) || !in(kind, 0, 5)) {
            return BAD;
        }
        return KINDS[kind].isInstance(now.players.get(one)) ? fine(one) : told(3);
    }

    public int ask(int one, int what) {
        if (!has(one) || !in(what, 0, 1)) {
            return BAD;
        }
        trace = new Trace();
        Player p = now.players.get(one);
        return what == 0 ? p.size(trace) : p.mark(trace);
    }

    public int trace(int i) {
        return in(i, 0, trace.numbers.size() - 1) ? trace.numbers.get(i) : NONE;
    }

    public int count(int what) {
        Round round = now == null ? new Round() : now;
        switch (what) {
            case 0: return (int) Arrays.stream(rows).filter(r -> r != null).count();
            case 1: return round.players.size();
            case 2: return round.murderer;
            case 3: return round.tick;
            case 4: return round.dead();
            case 5: return round.seen();
            case 6: return acts.size();
            case 7: return tape.length();
            default: return BAD;
        }
    }

    public int status() {
        return status;
    }
}
