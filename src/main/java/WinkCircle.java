/**
 * Wink murder: a circle of players who look at one another, one of whom winks others to death,
 * with rows, texts, acts that can be undone, foretelling and asks. Every refusal is an answer;
 * nothing here throws.
 */
public final class WinkCircle {
    public static final int NONE = -1000000, BAD = -1000001, STATE = -1000002, FULL = -1000003;

    private static final int FINDING_BASE = -1000010, FAULT_BASE = -1000100;
    private static final int NO_ROW = 1, NO_PLACE = 2, WRONG_KIND = 3, BELOW_NONE = 4, TWO_LANES = 5;

    private static final int MOST_PLAYERS = 8, LEAST_PLAYERS = 3;
    private static final int MOST_SAW = 99, MOST_PROOF = 9, MOST_SLOW = 9, LAST_TICK = 999;
    private static final int MOST_ACTS = 24, FAR = 60, IMAGES = 2;

    private static final int LIVES = 0, FADES = 1, DEAD = 2;
    private static final int ANY = 0, ROVER = 1, STARER = 2, BACKER = 3, SHY = 4, DOZER = 5;

    private final Rows rows;
    private final Tape tape;
    private final Circle now;
    private final Circle draft;
    private final Acts acts;
    private final Circle[] images;
    private final Seer seer;
    private final Asks asks;
    private int latestFault;
    private int latestFinding;

    public WinkCircle() {
        rows = new Rows();
        tape = new Tape();
        now = new Circle();
        draft = new Circle();
        acts = new Acts();
        images = new Circle[IMAGES];
        for (int k = 0; k < IMAGES; k++) {
            images[k] = new Circle();
        }
        seer = new Seer();
        asks = new Asks();
        latestFault = 0;
        latestFinding = 0;
    }

    // ---- rows

    public int row(int row, int lane, int n) {
        if (!isRow(row) || lane < 0 || lane > 2 || n > Rows.MOST_ITEMS) {
            return BAD;
        }
        if (n < 0) {
            return finding(BELOW_NONE);
        }
        rows.make(row, lane, n);
        return unhindered(n);
    }

    public int set(int row, int i, int v) {
        if (!isRow(row)) {
            return BAD;
        }
        int hindrance = rows.hindrance(row, i, 1);
        if (hindrance != 0) {
            return finding(hindrance);
        }
        return unhindered(rows.put(row, i, v));
    }

    public int copy(int a, int i, int b, int j, int n) {
        if (!isRow(a) || !isRow(b)) {
            return BAD;
        }
        int hindrance = rows.hindranceOfTwo(a, i, b, j, n);
        if (hindrance != 0) {
            return finding(hindrance);
        }
        rows.move(a, i, b, j, n);
        return unhindered(n);
    }

    public int drop(int row) {
        if (!isRow(row)) {
            return BAD;
        }
        if (rows.isMissing(row)) {
            return finding(NO_ROW);
        }
        return unhindered(rows.remove(row));
    }

    // ---- what is told

    public int feed(int letter) {
        if (letter < 0 || letter > 255) {
            return BAD;
        }
        if (tape.isFull()) {
            return FULL;
        }
        return tape.add(letter);
    }

    public int circle() {
        int number = tape.readInto(draft);
        int place = tape.place();
        tape.clear();
        if (number != 0) {
            latestFault = number;
            return FAULT_BASE - place;
        }
        now.takeFrom(draft);
        acts.forget();
        return now.players;
    }

    public int fault() {
        return latestFault;
    }

    public int undo() {
        if (acts.size() == 0) {
            return STATE;
        }
        acts.takeBack(now);
        return acts.size();
    }

    // ---- what is done

    public int ticks(int n) {
        if (now.isNone()) {
            return STATE;
        }
        if (n < 1 || n > 24) {
            return BAD;
        }
        if (now.tick + n > LAST_TICK) {
            return FULL;
        }
        for (int t = 0; t < n; t++) {
            acts.keep(now);
            now.passTick();
        }
        return now.bitsOf(DEAD);
    }

    public int turnHead(int player, int seat) {
        if (!now.has(player) || !now.has(seat) || seat == player) {
            return BAD;
        }
        if (now.how[player] == DEAD || now.look[player] == seat) {
            return STATE;
        }
        acts.keep(now);
        int was = now.look[player];
        now.look[player] = seat;
        return was;
    }

    public int role(int player) {
        if (!now.has(player)) {
            return BAD;
        }
        if (now.murderer == player) {
            return STATE;
        }
        acts.keep(now);
        int was = now.murderer;
        now.giveRole(player);
        return was;
    }

    public int proof(int v) {
        if (now.isNone()) {
            return STATE;
        }
        if (v < 1 || v > MOST_PROOF) {
            return BAD;
        }
        acts.keep(now);
        int was = now.proof;
        now.proof = v;
        return was;
    }

    public int rise(int player) {
        if (!now.has(player)) {
            return BAD;
        }
        if (now.how[player] != DEAD) {
            return STATE;
        }
        acts.keep(now);
        now.sitUp(player);
        return now.bitsOf(DEAD);
    }

    public int player(int player, int what) {
        if (!now.has(player)) {
            return BAD;
        }
        switch (what) {
            case 0: return now.how[player];
            case 1: return now.look[player];
            case 2: return now.slow[player];
            case 3: return now.left[player];
            case 4: return now.saw[player];
            case 5: return now.lookersAt(player);
            default: return BAD;
        }
    }

    public int stand(int what) {
        if (now.isNone()) {
            return STATE;
        }
        switch (what) {
            case 0: return now.players;
            case 1: return now.murderer;
            case 2: return now.proof;
            case 3: return now.found ? 1 : 0;
            case 4: return now.bitsOf(LIVES);
            case 5: return now.bitsOf(FADES);
            case 6: return now.bitsOf(DEAD);
            default: return BAD;
        }
    }

    // ---- foretold

    public int ahead(int player, int n, int what) {
        if (!now.has(player) || n < 0 || n > FAR || what < 0 || what > 2) {
            return BAD;
        }
        Circle then = seer.behind(now, n);
        if (what == 0) {
            return then.how[player];
        }
        return what == 1 ? then.look[player] : then.saw[player];
    }

    public int toll(int n, int what) {
        if (now.isNone()) {
            return STATE;
        }
        if (n < 0 || n > FAR || !isHalf(what)) {
            return BAD;
        }
        Circle then = seer.behind(now, n);
        if (what == 0) {
            return then.bitsOf(DEAD);
        }
        return then.found ? 1 : 0;
    }

    public int when(int player, int how) {
        if (!now.has(player) || how < FADES || how > DEAD) {
            return BAD;
        }
        return seer.firstSoFarGone(now, player, how);
    }

    public int out() {
        if (now.isNone()) {
            return STATE;
        }
        return seer.firstFound(now);
    }

    public int meet(int a, int b) {
        if (!now.has(a) || !now.has(b) || a == b) {
            return BAD;
        }
        return seer.firstMeeting(now, a, b);
    }

    public int bestRole(int n, int what) {
        if (now.isNone()) {
            return STATE;
        }
        if (n < 1 || n > 40 || !isHalf(what)) {
            return BAD;
        }
        seer.findBestRole(now, n);
        return what == 0 ? seer.bestOne : seer.bestDead;
    }

    public int glance(int n, int what) {
        if (now.isNone()) {
            return STATE;
        }
        if (n < 1 || n > 40 || !isHalf(what)) {
            return BAD;
        }
        if (now.isDead(now.murderer)) {
            return NONE;
        }
        seer.findBestGlance(now, n);
        return what == 0 ? seer.bestOne : seer.bestDead;
    }

    public int pass(int n) {
        if (now.isNone()) {
            return STATE;
        }
        if (n < 1 || n > 40) {
            return BAD;
        }
        return seer.leastPassingProof(now, n);
    }

    public int sets(int v, int what) {
        if (now.isNone()) {
            return STATE;
        }
        if (v < 0 || v > 99 || what < 0 || what > 2) {
            return BAD;
        }
        return seer.setsThatSaw(now, v, what);
    }

    public int share(int player, int n) {
        if (!now.has(player) || n < 0 || n > 999) {
            return BAD;
        }
        return seer.partOf(now, player, n);
    }

    public int byTurns(int n, int m) {
        if (now.isNone()) {
            return STATE;
        }
        if (n < 0 || n > Seer.MOST_TURNS || m < 1 || m > 20) {
            return BAD;
        }
        return seer.whatComesOfTurns(now, n, m);
    }

    public int who(int player, int which, int row, int i, int n) {
        if (!now.has(player) || which < 0 || which > 3 || !isRow(row) || n < 1 || n > 12) {
            return BAD;
        }
        if (which == 2 && now.how[player] == DEAD) {
            return STATE;
        }
        int hindrance = rows.hindrance(row, i, n);
        if (hindrance != 0) {
            return finding(hindrance);
        }
        seer.hear(rows, row, i, n);
        switch (which) {
            case 0: return unhindered(seer.fittingMurderers(now));
            case 1: return unhindered(seer.fittingKinds(now, player));
            case 2: return unhindered(seer.fittingLooks(now, player));
            default: return unhindered(seer.fittingSlownesses(now, player));
        }
    }

    public long sleep(int n, int p, int what) {
        if (now.isNone()) {
            return STATE;
        }
        if (n < 0 || n > FAR || p < 0 || p > 10 || !isHalf(what)) {
            return BAD;
        }
        seer.weighSleep(now, n, p);
        return what == 0 ? seer.numerator : seer.denominator;
    }

    public int drawn(int n, int seed, int what) {
        if (now.isNone()) {
            return STATE;
        }
        if (n < 0 || n > FAR || seed < 1 || seed > 999999 || !isHalf(what)) {
            return BAD;
        }
        seer.playDraws(now, n, seed);
        return what == 0 ? seer.died : seer.timesFound;
    }

    public int image(int k) {
        if (!isImage(k)) {
            return BAD;
        }
        if (now.isNone()) {
            return STATE;
        }
        images[k].takeFrom(now);
        return 1;
    }

    public int restore(int k) {
        if (!isImage(k)) {
            return BAD;
        }
        if (images[k].isNone()) {
            return STATE;
        }
        now.takeFrom(images[k]);
        acts.forget();
        return 1;
    }

    // ---- asked

    public int kind(int one) {
        if (!now.has(one)) {
            return BAD;
        }
        return now.kind[one];
    }

    public int as(int one, int kind) {
        if (!now.has(one) || kind < ANY || kind > DOZER) {
            return BAD;
        }
        if (!isOfKind(now.kind[one], kind)) {
            return finding(WRONG_KIND);
        }
        return unhindered(one);
    }

    public int ask(int one, int what) {
        if (!now.has(one) || !isHalf(what)) {
            return BAD;
        }
        asks.begin(one, now.kind[one], now.slow[one], now.saw[one]);
        return what == 0 ? asks.sizeGiven() : asks.markGiven();
    }

    public int trace(int i) {
        return asks.left(i);
    }

    public int count(int what) {
        switch (what) {
            case 0: return rows.present();
            case 1: return now.players;
            case 2: return now.murderer;
            case 3: return now.tick;
            case 4: return now.howManyDead();
            case 5: return now.allSaw();
            case 6: return acts.size();
            case 7: return tape.size();
            default: return BAD;
        }
    }

    public int status() {
        return latestFinding;
    }

    // ---- what the calls share

    private int finding(int number) {
        latestFinding = number;
        return FINDING_BASE - number;
    }

    private int unhindered(int answer) {
        latestFinding = 0;
        return answer;
    }

    private static boolean isRow(int row) {
        return row >= 0 && row < Rows.ROWS;
    }

    private static boolean isImage(int k) {
        return k >= 0 && k < IMAGES;
    }

    private static boolean isHalf(int what) {
        return what == 0 || what == 1;
    }

    private static boolean isOfKind(int own, int asked) {
        if (asked == ANY || asked == own) {
            return true;
        }
        if (asked == ROVER) {
            return own == STARER || own == BACKER;
        }
        return asked == SHY && own == DOZER;
    }

    /** ROWS of numbers, each of one LANE; the callers have tested a row's number. */
    private static final class Rows {
        static final int ROWS = 8, MOST_ITEMS = 40;
        private static final int MISSING = -1;

        private final int[][] items;
        private final int[] lane;
        private final int[] size;

        Rows() {
            items = new int[ROWS][MOST_ITEMS];
            lane = new int[ROWS];
            size = new int[ROWS];
            for (int r = 0; r < ROWS; r++) {
                size[r] = MISSING;
            }
        }

        void make(int row, int itsLane, int n) {
            lane[row] = itsLane;
            size[row] = n;
            for (int i = 0; i < MOST_ITEMS; i++) {
                items[row][i] = 0;
            }
        }

        int put(int row, int i, int v) {
            int kept = v;
            if (lane[row] == 0) {
                kept = (byte) v;
            } else if (lane[row] == 1) {
                kept = (short) v;
            }
            items[row][i] = kept;
            return kept;
        }

        int item(int row, int i) {
            return items[row][i];
        }

        void move(int a, int i, int b, int j, int n) {
            System.arraycopy(items[a], i, items[b], j, n);
        }

        int remove(int row) {
            int had = size[row];
            size[row] = MISSING;
            return had;
        }

        boolean isMissing(int row) {
            return size[row] == MISSING;
        }

        int present() {
            int many = 0;
            for (int r = 0; r < ROWS; r++) {
                if (!isMissing(r)) {
                    many++;
                }
            }
            return many;
        }

        int hindrance(int row, int i, int n) {
            if (isMissing(row)) {
                return NO_ROW;
            }
            return isWithin(row, i, n) ? 0 : NO_PLACE;
        }

        int hindranceOfTwo(int a, int i, int b, int j, int n) {
            if (isMissing(a) || isMissing(b)) {
                return NO_ROW;
            }
            if (lane[a] != lane[b]) {
                return TWO_LANES;
            }
            return isWithin(a, i, n) && isWithin(b, j, n) ? 0 : NO_PLACE;
        }

        // The size less n, not i and n, since that sum could wrap around.
        private boolean isWithin(int row, int i, int n) {
            return i >= 0 && n >= 0 && i <= size[row] - n;
        }
    }

    /** THE TAPE, and the reading of a circle from it. */
    private static final class Tape {
        private static final int LENGTH = 100;
        private static final int CANNOT_STAND = 1, NOT_AS_TOLD = 2, NO_ROOM = 3;
        private static final int MOST_FIGURES = 2;

        private final int[] bytes;
        private int used;
        private int at;
        private int fault;

        Tape() {
            bytes = new int[LENGTH];
            used = 0;
            at = 0;
            fault = 0;
        }

        boolean isFull() {
            return used >= LENGTH;
        }

        int size() {
            return used;
        }

        int add(int letter) {
            bytes[used] = letter;
            used++;
            return used;
        }

        void clear() {
            used = 0;
        }

        /** Where the latest reading stopped: the first byte of the token that had the fault. */
        int place() {
            return at;
        }

        /** Reads the whole tape into a circle: the number of the fault, or 0. */
        int readInto(Circle draft) {
            at = 0;
            fault = 0;
            draft.clear();
            readSign('w');
            draft.murderer = readNumber(0, MOST_PLAYERS - 1);
            readSign(',');
            draft.proof = readNumber(1, MOST_PROOF);
            readSign(';');
            for (int p = 0; p <= MOST_PLAYERS && fault == 0 && at < used; p++) {
                readPlayer(draft, p);
            }
            if (fault == 0 && draft.players < LEAST_PLAYERS) {
                fault = CANNOT_STAND;
            }
            if (fault == 0) {
                draft.settle();
            }
            return fault;
        }

        private void readPlayer(Circle draft, int p) {
            int sort = sortOf(bytes[at]);
            if (sort == ANY) {
                fault = CANNOT_STAND;
                return;
            }
            if (p >= MOST_PLAYERS) {
                fault = NO_ROOM;
                return;
            }
            at++;
            draft.kind[p] = sort;
            draft.look[p] = readNumber(0, MOST_PLAYERS - 1);
            readSign(',');
            draft.slow[p] = readNumber(1, MOST_SLOW);
            readSign(';');
            draft.players = p + 1;
        }

        private static int sortOf(int letter) {
            switch (letter) {
                case 'r': return ROVER;
                case 's': return STARER;
                case 'b': return BACKER;
                case 'h': return SHY;
                case 'd': return DOZER;
                default: return ANY;
            }
        }

        // Behind a fault nothing more is read, so that the place stays where the fault is.
        private void readSign(int sign) {
            if (fault != 0) {
                return;
            }
            if (at >= used || bytes[at] != sign) {
                fault = CANNOT_STAND;
                return;
            }
            at++;
        }

        private int readNumber(int least, int most) {
            if (fault != 0) {
                return least;
            }
            int value = 0;
            int figures = 0;
            while (figures <= MOST_FIGURES && isFigureAt(at + figures)) {
                value = value * 10 + bytes[at + figures] - '0';
                figures++;
            }
            if (figures == 0 || figures > MOST_FIGURES) {
                fault = CANNOT_STAND;
                return least;
            }
            if (value < least || value > most) {
                fault = NOT_AS_TOLD;
                return least;
            }
            at += figures;
            return value;
        }

        private boolean isFigureAt(int place) {
            return place < used && bytes[place] >= '0' && bytes[place] <= '9';
        }
    }

    /** The CIRCLE as it stands at one TICK; with no players there is none. */
    private static final class Circle {
        int players;
        int murderer;
        int proof;
        int tick;
        boolean found;
        int asleep;
        final int[] kind;
        final int[] look;
        final int[] slow;
        final int[] how;
        final int[] left;
        final int[] saw;

        Circle() {
            kind = new int[MOST_PLAYERS];
            look = new int[MOST_PLAYERS];
            slow = new int[MOST_PLAYERS];
            how = new int[MOST_PLAYERS];
            left = new int[MOST_PLAYERS];
            saw = new int[MOST_PLAYERS];
        }

        void clear() {
            players = 0;
            murderer = 0;
            proof = 1;
            tick = 0;
            found = false;
            asleep = 0;
            for (int p = 0; p < MOST_PLAYERS; p++) {
                kind[p] = ANY;
                look[p] = NONE;
                slow[p] = 1;
                how[p] = LIVES;
                left[p] = 0;
                saw[p] = 0;
            }
        }

        void takeFrom(Circle other) {
            players = other.players;
            murderer = other.murderer;
            proof = other.proof;
            tick = other.tick;
            found = other.found;
            asleep = other.asleep;
            for (int p = 0; p < MOST_PLAYERS; p++) {
                kind[p] = other.kind[p];
                look[p] = other.look[p];
                slow[p] = other.slow[p];
                how[p] = other.how[p];
                left[p] = other.left[p];
                saw[p] = other.saw[p];
            }
        }

        /** A text may name players and seats that there are not, before it is known how many there are. */
        void settle() {
            if (murderer >= players) {
                murderer = players - 1;
            }
            for (int p = 0; p < players; p++) {
                if (look[p] >= players || look[p] == p) {
                    look[p] = above(p);
                }
            }
        }

        boolean isNone() {
            return players == 0;
        }

        boolean has(int player) {
            return player >= 0 && player < players;
        }

        boolean isDead(int player) {
            return has(player) && how[player] == DEAD;
        }

        int above(int seat) {
            return seat + 1 < players ? seat + 1 : 0;
        }

        int below(int seat) {
            return seat > 0 ? seat - 1 : players - 1;
        }

        int bitsOf(int state) {
            int bits = 0;
            for (int p = 0; p < players; p++) {
                if (how[p] == state) {
                    bits |= 1 << p;
                }
            }
            return bits;
        }

        int howManyDead() {
            int many = 0;
            for (int p = 0; p < players; p++) {
                if (how[p] == DEAD) {
                    many++;
                }
            }
            return many;
        }

        int lookersAt(int seat) {
            int bits = 0;
            for (int p = 0; p < players; p++) {
                if (look[p] == seat) {
                    bits |= 1 << p;
                }
            }
            return bits;
        }

        int allSaw() {
            int sum = 0;
            for (int p = 0; p < players; p++) {
                sum += saw[p];
            }
            return sum;
        }

        void giveRole(int player) {
            murderer = player;
            found = false;
            for (int p = 0; p < players; p++) {
                saw[p] = 0;
            }
        }

        void sitUp(int player) {
            how[player] = LIVES;
            left[player] = 0;
            saw[player] = 0;
            look[player] = above(player);
        }

        private boolean isAsleep(int player) {
            return (asleep >> player & 1) == 1;
        }

        void passTicks(int n) {
            for (int t = 0; t < n; t++) {
                passTick();
            }
        }

        void passTick() {
            for (int p = 0; p < players; p++) {
                look[p] = nextLook(p);
            }
            wink();
            fade();
            tick++;
        }

        private int nextLook(int p) {
            if (how[p] == DEAD || isAsleep(p)) {
                return NONE;
            }
            switch (kind[p]) {
                case ROVER: return roveUp(p);
                case STARER: return look[p];
                case BACKER: return roveDown(p);
                case SHY: return nextNotDead(p);
                default: return tick % 2 == 0 ? nextNotDead(p) : NONE;
            }
        }

        private int roveUp(int p) {
            int seat = above(look[p] == NONE ? p : look[p]);
            return seat == p ? above(seat) : seat;
        }

        private int roveDown(int p) {
            int seat = below(look[p] == NONE ? p : look[p]);
            return seat == p ? below(seat) : seat;
        }

        private int nextNotDead(int p) {
            int seat = p;
            for (int i = 1; i < players; i++) {
                seat = above(seat);
                if (how[seat] != DEAD) {
                    return seat;
                }
            }
            return NONE;
        }

        private void wink() {
            if (found || !has(murderer) || how[murderer] == DEAD) {
                return;
            }
            int victim = look[murderer];
            if (!has(victim) || how[victim] != LIVES || look[victim] != murderer) {
                return;
            }
            how[victim] = FADES;
            left[victim] = slow[victim] + 1;
            for (int p = 0; p < players; p++) {
                if (p != victim && p != murderer && how[p] != DEAD && look[p] == murderer) {
                    seeWink(p);
                }
            }
        }

        private void seeWink(int p) {
            if (saw[p] < MOST_SAW) {
                saw[p]++;
            }
            if (saw[p] >= proof) {
                found = true;
            }
        }

        private void fade() {
            for (int p = 0; p < players; p++) {
                if (how[p] == FADES) {
                    left[p]--;
                    if (left[p] <= 0) {
                        left[p] = 0;
                        how[p] = DEAD;
                        look[p] = NONE;
                    }
                }
            }
        }
    }

    /** The circle as it was ahead of each of the latest ACTS, in a ring. */
    private static final class Acts {
        private final Circle[] before;
        private int oldest;
        private int kept;

        Acts() {
            before = new Circle[MOST_ACTS];
            for (int i = 0; i < MOST_ACTS; i++) {
                before[i] = new Circle();
            }
            oldest = 0;
            kept = 0;
        }

        int size() {
            return kept;
        }

        void forget() {
            kept = 0;
        }

        void keep(Circle circle) {
            if (kept == MOST_ACTS) {
                oldest = (oldest + 1) % MOST_ACTS;
                kept--;
            }
            before[(oldest + kept) % MOST_ACTS].takeFrom(circle);
            kept++;
        }

        void takeBack(Circle circle) {
            if (kept > 0) {
                kept--;
                circle.takeFrom(before[(oldest + kept) % MOST_ACTS]);
            }
        }
    }

    /** What is foretold: it plays on circles of its own, so that the real one never changes. */
    private static final class Seer {
        static final int MOST_TURNS = 3;
        private static final int MOST_HEARD = 12;

        private final Circle trial;
        private final Circle table;
        private final int[] heard;
        private int heardLength;
        int bestOne;
        int bestDead;
        int died;
        int timesFound;
        long numerator;
        long denominator;

        Seer() {
            trial = new Circle();
            table = new Circle();
            heard = new int[MOST_HEARD];
        }

        Circle behind(Circle now, int n) {
            trial.takeFrom(now);
            trial.passTicks(n);
            return trial;
        }

        int firstSoFarGone(Circle now, int player, int how) {
            trial.takeFrom(now);
            for (int t = 0; t <= FAR; t++) {
                if (trial.how[player] >= how) {
                    return t;
                }
                trial.passTick();
            }
            return NONE;
        }

        int firstFound(Circle now) {
            trial.takeFrom(now);
            for (int t = 0; t <= FAR; t++) {
                if (trial.found) {
                    return t;
                }
                trial.passTick();
            }
            return NONE;
        }

        int firstMeeting(Circle now, int a, int b) {
            trial.takeFrom(now);
            for (int t = 0; t <= FAR; t++) {
                if (trial.look[a] == b && trial.look[b] == a) {
                    return t;
                }
                trial.passTick();
            }
            return NONE;
        }

        void findBestRole(Circle now, int n) {
            bestOne = NONE;
            bestDead = NONE;
            for (int p = 0; p < now.players; p++) {
                beginWithMurderer(now, p);
                trial.passTicks(n);
                offer(p, trial.howManyDead());
            }
        }

        // One who is the murderer already stays so: what was seen is not forgotten by that.
        private void beginWithMurderer(Circle now, int p) {
            trial.takeFrom(now);
            if (trial.murderer != p) {
                trial.giveRole(p);
            }
        }

        void findBestGlance(Circle now, int n) {
            bestOne = NONE;
            bestDead = NONE;
            for (int seat = 0; seat < now.players; seat++) {
                if (seat != now.murderer && now.has(now.murderer)) {
                    trial.takeFrom(now);
                    trial.look[now.murderer] = seat;
                    trial.passTicks(n);
                    offer(seat, trial.howManyDead());
                }
            }
        }

        private void offer(int one, int dead) {
            if (dead > bestDead) {
                bestOne = one;
                bestDead = dead;
            }
        }

        int leastPassingProof(Circle now, int n) {
            for (int v = 1; v <= MOST_PROOF; v++) {
                trial.takeFrom(now);
                trial.proof = v;
                trial.passTicks(n);
                if (!trial.found) {
                    return v;
                }
            }
            return NONE;
        }

        int setsThatSaw(Circle now, int v, int what) {
            int dead = now.bitsOf(DEAD);
            int many = 0;
            int inAll = (1 << now.players) - 1;
            int inAny = 0;
            for (int set = 0; set < 1 << now.players; set++) {
                if ((set & dead) == 0 && sawTogether(now, set) == v) {
                    many++;
                    inAll &= set;
                    inAny |= set;
                }
            }
            if (what == 0) {
                return many;
            }
            if (many == 0) {
                return 0;
            }
            return what == 1 ? inAll : inAny;
        }

        private static int sawTogether(Circle now, int set) {
            int sum = 0;
            for (int p = 0; p < now.players; p++) {
                if ((set >> p & 1) == 1) {
                    sum += now.saw[p];
                }
            }
            return sum;
        }

        int partOf(Circle now, int player, int n) {
            int all = now.allSaw();
            if (all <= 0 || now.saw[player] == 0) {
                return 0;
            }
            int over = n;
            int earlier = 0;
            for (int p = 0; p < now.players; p++) {
                over -= n * now.saw[p] / all;
                if (p < player && now.saw[p] > 0) {
                    earlier++;
                }
            }
            return n * now.saw[player] / all + (earlier < over ? 1 : 0);
        }

        int whatComesOfTurns(Circle now, int n, int m) {
            table.takeFrom(now);
            return outcomeOfTurns(table, trial, 0, n, m);
        }

        /** What comes of the turns from this one on, by the heads as they are on the table. */
        private static int outcomeOfTurns(Circle table, Circle trial, int turn, int n, int m) {
            if (turn >= n || turn >= MOST_TURNS) {
                trial.takeFrom(table);
                for (int t = 0; t < m; t++) {
                    trial.passTick();
                }
                return trial.howManyDead();
            }
            boolean wantsMany = turn % 2 == 0;
            int head = wantsMany ? table.murderer : table.above(table.murderer);
            int best = outcomeOfTurns(table, trial, turn + 1, n, m);
            if (!table.has(head) || table.how[head] == DEAD) {
                return best;
            }
            int was = table.look[head];
            for (int seat = 0; seat < table.players; seat++) {
                if (seat != head && seat != was) {
                    table.look[head] = seat;
                    int outcome = outcomeOfTurns(table, trial, turn + 1, n, m);
                    best = wantsMany ? Math.max(best, outcome) : Math.min(best, outcome);
                }
            }
            table.look[head] = was;
            return best;
        }

        /** Takes n items of a row to heart: how many are dead behind each tick to come. */
        void hear(Rows rows, int row, int i, int n) {
            heardLength = 0;
            for (int t = 0; t < n && t < MOST_HEARD; t++) {
                heard[t] = rows.item(row, i + t);
                heardLength = t + 1;
            }
        }

        private boolean isAsHeard() {
            for (int t = 0; t < heardLength; t++) {
                trial.passTick();
                if (trial.howManyDead() != heard[t]) {
                    return false;
                }
            }
            return true;
        }

        int fittingMurderers(Circle now) {
            int bits = 0;
            for (int p = 0; p < now.players; p++) {
                beginWithMurderer(now, p);
                if (isAsHeard()) {
                    bits |= 1 << p;
                }
            }
            return bits;
        }

        int fittingKinds(Circle now, int player) {
            int bits = 0;
            for (int kind = ROVER; kind <= DOZER; kind++) {
                trial.takeFrom(now);
                trial.kind[player] = kind;
                if (isAsHeard()) {
                    bits |= 1 << kind;
                }
            }
            return bits;
        }

        int fittingLooks(Circle now, int player) {
            int bits = 0;
            for (int seat = 0; seat < now.players; seat++) {
                if (seat != player) {
                    trial.takeFrom(now);
                    trial.look[player] = seat;
                    if (isAsHeard()) {
                        bits |= 1 << seat;
                    }
                }
            }
            return bits;
        }

        int fittingSlownesses(Circle now, int player) {
            int bits = 0;
            for (int slow = 1; slow <= MOST_SLOW; slow++) {
                trial.takeFrom(now);
                trial.slow[player] = slow;
                if (isAsHeard()) {
                    bits |= 1 << slow;
                }
            }
            return bits;
        }

        void weighSleep(Circle now, int n, int p) {
            int mayFall = (1 << now.players) - 1 & ~now.bitsOf(DEAD) & ~(1 << now.murderer);
            int many = Integer.bitCount(mayFall);
            numerator = 0;
            denominator = power(10, many);
            for (int set = 0; set < 1 << now.players; set++) {
                if ((set & ~mayFall) == 0) {
                    int fallen = Integer.bitCount(set);
                    long cases = power(p, fallen) * power(10 - p, many - fallen);
                    if (cases > 0 && isFoundThough(now, set, n)) {
                        numerator += cases;
                    }
                }
            }
            reduce();
        }

        private boolean isFoundThough(Circle now, int sleepers, int n) {
            trial.takeFrom(now);
            trial.asleep = sleepers;
            for (int t = 0; t < n && !trial.found; t++) {
                trial.passTick();
            }
            return trial.found;
        }

        private static long power(long base, int times) {
            long product = 1;
            for (int i = 0; i < times; i++) {
                product *= base;
            }
            return product;
        }

        // A hundred steps are far more than Euclid's way needs below ten millions.
        private void reduce() {
            long a = denominator;
            long b = numerator;
            for (int step = 0; step < 100 && b != 0; step++) {
                long rest = a % b;
                a = b;
                b = rest;
            }
            if (a > 0) {
                numerator /= a;
                denominator /= a;
            }
        }

        void playDraws(Circle now, int n, int seed) {
            trial.takeFrom(now);
            died = 0;
            timesFound = 0;
            long x = seed;
            for (int t = 0; t < n; t++) {
                x = x * 16807 % 2147483647L;
                disturb(x);
                int dead = trial.howManyDead();
                boolean wasFound = trial.found;
                trial.passTick();
                died += trial.howManyDead() - dead;
                if (trial.found && !wasFound) {
                    timesFound++;
                }
            }
        }

        private void disturb(long x) {
            if (trial.players <= 0) {
                return;
            }
            int player = (int) (x % trial.players);
            if (trial.how[player] == DEAD) {
                trial.sitUp(player);
            } else if (x % 3 == 0) {
                int seat = (int) (x / 8 % trial.players);
                if (seat != player) {
                    trial.look[player] = seat;
                }
            }
            // A new round begins, even if the draw falls on the one who was the murderer.
            if (trial.found) {
                trial.giveRole(player);
            }
        }
    }

    /**
     * ASKS of one player. A kind's body and those that it calls for are written out in one method
     * for each family of kinds, so that neither ask can come back to itself.
     */
    private static final class Asks {
        private static final int MOST_LEFT = 16;

        private final int[] numbers;
        private int used;
        private int one;
        private int kind;
        private int slow;
        private int saw;

        Asks() {
            numbers = new int[MOST_LEFT];
            used = 0;
        }

        void begin(int itsNumber, int itsKind, int itsSlow, int itsSaw) {
            used = 0;
            one = itsNumber;
            kind = itsKind;
            slow = itsSlow;
            saw = itsSaw;
        }

        int left(int i) {
            return i >= 0 && i < used ? numbers[i] : NONE;
        }

        private void leave(int number) {
            if (used < MOST_LEFT) {
                numbers[used] = number;
                used++;
            }
        }

        int sizeGiven() {
            return isOfKind(kind, SHY) ? sizeOfShy() : sizeOfRover();
        }

        int markGiven() {
            return isOfKind(kind, SHY) ? markOfShy() : markOfRover();
        }

        private int sizeOfRover() {
            if (kind == STARER) {
                leave(12);
            }
            leave(11);
            leave(10);
            int given = slow + markOfRover();
            return kind == STARER ? -given : given;
        }

        private int sizeOfShy() {
            if (kind == DOZER) {
                leave(14);
            }
            leave(13);
            leave(10);
            int given = slow - 100;
            return kind == DOZER ? given * 2 : given;
        }

        private int markOfRover() {
            if (kind == STARER) {
                leave(24);
            } else if (kind == BACKER) {
                leave(22);
            }
            leave(21);
            leave(20);
            int given = one + saw;
            if (kind == STARER) {
                return given * 2;
            }
            return kind == BACKER ? given - 1000 : given;
        }

        private int markOfShy() {
            leave(23);
            leave(20);
            return one - sizeOfShy();
        }
    }
}
