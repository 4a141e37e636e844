/**
 * A text that six replicas write at once. A sign is known inside by the number of the deed that
 * typed it, so that one row by numbers serves for deeds and for signs.
 */
public final class SignRow {
    public static final int NONE = -1, UNKNOWN = -101, OUTSIDE = -102, STATE = -103, ROOM = -104;

    private static final int REPLICAS = 6;
    private static final int CURSORS = 4;
    private static final int KINDS = 8;
    private static final int MOST_DEEDS = 400;
    private static final int MOST_LEVELS = 12;
    private static final int MOST_MESSAGES = 300;
    private static final int MOST_PASTED = 20;
    private static final int FIRST_SIGN = 32;
    private static final int LAST_SIGN = 126;

    private static final int TYPE = 0;
    private static final int ERASE = 1;
    private static final int RAISE = 2;
    private static final int MARK = 3;

    private static final int IS_DONE = 1;
    private static final int IT_WAITS = 2;
    private static final int IS_NOTHING = 0;

    private final Deeds deeds;
    private final Paths paths;
    private final Way way;
    private final Replica[] replicas;

    public SignRow() {
        deeds = new Deeds();
        paths = new Paths();
        way = new Way();
        replicas = new Replica[REPLICAS];
        for (int r = 0; r < REPLICAS; r++) {
            replicas[r] = new Replica(r, deeds, paths);
        }
    }

    public int stream(int r, int v) {
        if (!isReplica(r)) {
            return UNKNOWN;
        }
        int was = replicas[r].stream;
        replicas[r].stream = v;
        return was;
    }

    public int type(int r, int place, int sign) {
        if (!isReplica(r)) {
            return UNKNOWN;
        }
        if (!replicas[r].hasGap(place) || !isByte(sign)) {
            return OUTSIDE;
        }
        return putSign(replicas[r], place, sign);
    }

    public int paste(int r, int place, int n, int sign) {
        if (!isReplica(r)) {
            return UNKNOWN;
        }
        if (!replicas[r].hasGap(place) || n < 1 || n > MOST_PASTED || !isByte(sign)) {
            return OUTSIDE;
        }
        int next = sign;
        for (int came = 0; came < n; came++) {
            if (putSign(replicas[r], place + came, next) == ROOM) {
                return came;
            }
            next = next == LAST_SIGN ? FIRST_SIGN : next + 1;
        }
        return n;
    }

    public int erase(int r, int place) {
        if (!isReplica(r)) {
            return UNKNOWN;
        }
        int found = replicas[r].signAt(place);
        if (found == NONE) {
            return OUTSIDE;
        }
        return deeds.isFull() ? ROOM : perform(replicas[r], ERASE, 0, found, found);
    }

    public int undo(int r) {
        if (!isReplica(r)) {
            return UNKNOWN;
        }
        int last = deeds.lastToUndo(r);
        if (last == NONE) {
            return STATE;
        }
        if (deeds.isFull()) {
            return ROOM;
        }
        int named = deeds.from[last];
        int by = perform(replicas[r], deeds.sort[last] == TYPE ? ERASE : RAISE, 0, named, named);
        deeds.mayUndo[last] = false;
        deeds.mayUndo[by] = false;
        return by;
    }

    public int mark(int r, int from, int to, int kind, boolean on) {
        if (!isReplica(r)) {
            return UNKNOWN;
        }
        int first = replicas[r].signAt(from);
        int last = replicas[r].signAt(to);
        if (first == NONE || last == NONE || from > to || kind < 0 || kind >= KINDS) {
            return OUTSIDE;
        }
        if (deeds.isFull()) {
            return ROOM;
        }
        return perform(replicas[r], MARK, on ? kind + KINDS : kind, first, last);
    }

    public int deliver(int i) {
        if (!way.holds(i)) {
            return UNKNOWN;
        }
        int d = way.what[i];
        int to = way.toWhom[i];
        way.drop(i);
        return replicas[to].receive(d);
    }

    public int lose(int i) {
        if (!way.holds(i)) {
            return UNKNOWN;
        }
        way.drop(i);
        return way.total;
    }

    public int repeat(int i) {
        if (!way.holds(i)) {
            return UNKNOWN;
        }
        if (way.isFull()) {
            return ROOM;
        }
        way.send(way.what[i], way.toWhom[i]);
        return way.total;
    }

    public int sync(int r, int q) {
        if (!isReplica(r) || !isReplica(q)) {
            return UNKNOWN;
        }
        Replica learner = replicas[r];
        int before = learner.doneInAll();
        for (int d = 0; d < deeds.total; d++) {
            if (replicas[q].didDeed(d)) {
                learner.receive(d);
            }
        }
        return learner.doneInAll() - before;
    }

    public int length(int r) {
        return isReplica(r) ? replicas[r].textLength() : UNKNOWN;
    }

    public int sign(int r, int place) throws IndexOutOfBoundsException {
        return deeds.value[livingSign(r, place)];
    }

    public int path(int r, int place, int level, int what) throws IndexOutOfBoundsException {
        int found = livingSign(r, place);
        int levels = paths.depth[found];
        if (what == 0) {
            return levels;
        }
        if (what < 0 || what > 3 || level < 1 || level > levels) {
            throw new IndexOutOfBoundsException("no such level, or nothing to ask of it");
        }
        int asked = paths.levelOf(found, level);
        return what == 1 ? Paths.digitOf(asked) : what == 2 ? Paths.siteOf(asked) : Paths.countOf(asked);
    }

    public int kinds(int r, int place) throws IndexOutOfBoundsException {
        int found = livingSign(r, place);
        return replicas[r].kindsOf(found);
    }

    public int cursor(int r, int k, int place) {
        if (!isReplica(r)) {
            return UNKNOWN;
        }
        if (!isCursor(k) || !replicas[r].hasGap(place)) {
            return OUTSIDE;
        }
        int was = replicas[r].cursorPlace(k);
        replicas[r].cursors[k] = replicas[r].signBefore(place);
        return was;
    }

    public int at(int r, int k) {
        if (!isReplica(r)) {
            return UNKNOWN;
        }
        return isCursor(k) ? replicas[r].cursorPlace(k) : OUTSIDE;
    }

    public int about(int r, int q, int what) {
        if (!isReplica(r)) {
            return UNKNOWN;
        }
        switch (what) {
            case 0:
                return isReplica(q) ? replicas[r].doneOf[q] : UNKNOWN;
            case 1:
                return replicas[r].waiting;
            case 2:
                return replicas[r].time;
            case 3:
                return replicas[r].signs;
            default:
                return OUTSIDE;
        }
    }

    public int same(int r, int q) {
        if (!isReplica(r) || !isReplica(q)) {
            return UNKNOWN;
        }
        for (int i = 0; i < paths.total; i++) {
            if (!isAlike(replicas[r], replicas[q], paths.order[i])) {
                return 0;
            }
        }
        return 1;
    }

    public int deed(int d, int what) {
        if (d < 0 || d >= deeds.total) {
            return UNKNOWN;
        }
        switch (what) {
            case 0:
                return deeds.owner[d];
            case 1:
                return deeds.number[d];
            case 2:
                return deeds.time[d];
            case 3:
                return deeds.sort[d];
            case 4:
                return deeds.value[d];
            case 5:
                return deeds.from[d];
            default:
                return OUTSIDE;
        }
    }

    public int message(int i, int what) {
        if (!way.holds(i)) {
            return UNKNOWN;
        }
        return what == 0 ? way.what[i] : what == 1 ? way.toWhom[i] : OUTSIDE;
    }

    public int count(int what) {
        switch (what) {
            case 0:
                return deeds.total;
            case 1:
                return way.total;
            case 2:
                return way.lost;
            default:
                return OUTSIDE;
        }
    }

    private static boolean isReplica(int r) {
        return r >= 0 && r < REPLICAS;
    }

    private static boolean isCursor(int k) {
        return k >= 0 && k < CURSORS;
    }

    private static boolean isByte(int sign) {
        return sign >= FIRST_SIGN && sign <= LAST_SIGN;
    }

    private int livingSign(int r, int place) {
        int found = isReplica(r) ? replicas[r].signAt(place) : NONE;
        if (found == NONE) {
            throw new IndexOutOfBoundsException("no such replica, or no sign at that place");
        }
        return found;
    }

    /** Types a sign at a place that the writer's text has: the deed, or ROOM. */
    private int putSign(Replica writer, int place, int sign) {
        if (deeds.isFull()) {
            return ROOM;
        }
        int fresh = deeds.total;
        int before = writer.signBefore(place);
        if (!paths.findNew(fresh, before, writer.nextBehind(before), writer)) {
            return ROOM;
        }
        paths.insert(fresh, before);
        return perform(writer, TYPE, sign, fresh, fresh);
    }

    /**
     * Adds a deed, for which there is room, does it at its own replica and sends it to the others.
     * Nothing that waits there can come to be done by that: it names older signs alone, and is
     * another's.
     */
    private int perform(Replica doer, int sort, int value, int from, int to) {
        int d = deeds.add(doer.site, doer.nextNumber(), doer.time + 1, sort, value, from, to);
        doer.carryOut(d);
        for (int r = 0; r < REPLICAS; r++) {
            if (r != doer.site) {
                way.send(d, r);
            }
        }
        return d;
    }

    /** No two signs have one path, so texts are the same if the same signs live in them. */
    private static boolean isAlike(Replica one, Replica other, int sign) {
        boolean lives = one.isAlive(sign);
        if (lives != other.isAlive(sign)) {
            return false;
        }
        return !lives || one.kindsOf(sign) == other.kindsOf(sign);
    }

    /** All deeds, by their numbers. */
    private static final class Deeds {
        final int[] owner = new int[MOST_DEEDS];
        final int[] number = new int[MOST_DEEDS];
        final int[] time = new int[MOST_DEEDS];
        final int[] sort = new int[MOST_DEEDS];
        final int[] value = new int[MOST_DEEDS];
        final int[] from = new int[MOST_DEEDS];
        final int[] to = new int[MOST_DEEDS];
        final boolean[] mayUndo = new boolean[MOST_DEEDS];
        /** The numbers of the MARKs: the kinds of a sign are asked far more often than told. */
        final int[] marks = new int[MOST_DEEDS];
        int markTotal;
        int total;

        boolean isFull() {
            return total >= MOST_DEEDS;
        }

        int add(int whose, int n, int when, int which, int what, int first, int last) {
            int d = total;
            owner[d] = whose;
            number[d] = n;
            time[d] = when;
            sort[d] = which;
            value[d] = what;
            from[d] = first;
            to[d] = last;
            mayUndo[d] = which == TYPE || which == ERASE;
            if (which == MARK) {
                marks[markTotal] = d;
                markTotal++;
            }
            total++;
            return d;
        }

        boolean isLater(int d, int than) {
            return time[d] > time[than] || (time[d] == time[than] && owner[d] > owner[than]);
        }

        /** A replica's own times only rise, so its latest is the one with the greatest number. */
        int lastToUndo(int whose) {
            for (int d = total - 1; d >= 0; d--) {
                if (mayUndo[d] && owner[d] == whose) {
                    return d;
                }
            }
            return NONE;
        }
    }

    /**
     * The paths of all signs, and all signs in the order of their paths. A level is one int, DIGIT
     * above SITE above COUNT, so that levels are in order as ints are; COUNT is above 0, so that 0
     * is free to stand for a level that is not there, before all others.
     */
    private static final class Paths {
        private static final int COUNT_BITS = 9;
        private static final int SITE_BITS = 3;
        private static final int MOST_BASE_BITS = 12;
        private static final int LONGEST_STEP = 10;

        private final int[] levels = new int[MOST_DEEDS * MOST_LEVELS];
        final int[] depth = new int[MOST_DEEDS];
        final int[] order = new int[MOST_DEEDS];
        final int[] rank = new int[MOST_DEEDS];
        int total;

        static int digitOf(int level) {
            return level >>> (COUNT_BITS + SITE_BITS);
        }

        static int siteOf(int level) {
            return (level >>> COUNT_BITS) & ((1 << SITE_BITS) - 1);
        }

        static int countOf(int level) {
            return level & ((1 << COUNT_BITS) - 1);
        }

        private static int makeLevel(int digit, int site, int count) {
            return (digit << (COUNT_BITS + SITE_BITS)) | (site << COUNT_BITS) | count;
        }

        private static int baseOf(int k) {
            return 1 << Math.min(k + 3, MOST_BASE_BITS);
        }

        /** Level k (from 1) of a sign's path; 0 without such a level, and of no sign at all. */
        int levelOf(int sign, int k) {
            return sign == NONE || k > depth[sign] ? 0 : levels[sign * MOST_LEVELS + k - 1];
        }

        /** Gives a new sign a path between those of two signs (or NONE): false if it would be too long. */
        boolean findNew(int fresh, int before, int behind, Replica writer) {
            int bound = behind;
            for (int k = 1; k <= MOST_LEVELS; k++) {
                int low = digitOf(levelOf(before, k));
                int high = bound == NONE ? baseOf(k) : digitOf(levelOf(bound, k));
                int slot = fresh * MOST_LEVELS + k - 1;
                if (high - low > 1) {
                    int digit = lastDigit(k, low, high, writer.throwCoin());
                    levels[slot] = makeLevel(digit, writer.site, writer.nextNumber());
                    depth[fresh] = k;
                    return true;
                }
                levels[slot] = innerLevel(levelOf(before, k), levelOf(bound, k), writer);
                if (levelOf(bound, k) != levels[slot]) {
                    bound = NONE;
                }
            }
            return false;
        }

        private static int lastDigit(int k, int low, int high, int coin) {
            int step = 1 + coin % Math.min(LONGEST_STEP, high - low - 1);
            return k % 2 == 1 ? low + step : high - step;
        }

        /** A level in which there is no digit between: p's, else q's with digit 0, else one before q's. */
        private static int innerLevel(int ofBefore, int ofBound, Replica writer) {
            if (ofBefore != 0) {
                return ofBefore;
            }
            return digitOf(ofBound) == 0 ? ofBound : makeLevel(0, writer.site, writer.nextNumber());
        }

        private boolean isBefore(int sign, int other) {
            for (int k = 1; k <= MOST_LEVELS; k++) {
                int one = levelOf(sign, k);
                int two = levelOf(other, k);
                if (one != two) {
                    return one < two;
                }
            }
            return false;
        }

        /** Puts a sign into the order, somewhere behind another one (or NONE) of which that is known. */
        void insert(int fresh, int before) {
            int goal = before == NONE ? 0 : rank[before] + 1;
            while (goal < total && isBefore(order[goal], fresh)) {
                goal++;
            }
            for (int i = total; i > goal; i--) {
                order[i] = order[i - 1];
                rank[order[i]] = i;
            }
            order[goal] = fresh;
            rank[fresh] = goal;
            total++;
        }
    }

    /** The messages on the way, in the order in which they were sent. */
    private static final class Way {
        final int[] what = new int[MOST_MESSAGES];
        final int[] toWhom = new int[MOST_MESSAGES];
        int total;
        int lost;

        boolean holds(int i) {
            return i >= 0 && i < total;
        }

        boolean isFull() {
            return total >= MOST_MESSAGES;
        }

        void send(int d, int to) {
            if (isFull()) {
                lost++;
                return;
            }
            what[total] = d;
            toWhom[total] = to;
            total++;
        }

        void drop(int i) {
            total--;
            for (int j = i; j < total; j++) {
                what[j] = what[j + 1];
                toWhom[j] = toWhom[j + 1];
            }
        }
    }

    /** What one of the six has done, and what waits there. */
    private static final class Replica {
        final int site;
        private final Deeds deeds;
        private final Paths paths;
        int stream;
        int time;
        int signs;
        int waiting;
        /** One's deeds are done in their order, so that how many tells which. */
        final int[] doneOf = new int[REPLICAS];
        private final boolean[] waits = new boolean[MOST_DEEDS];
        /** Of each sign the latest ERASE or RAISE that was done here. */
        private final int[] fate = new int[MOST_DEEDS];
        final int[] cursors = new int[CURSORS];
        /** Of each kind the latest mark over the sign that is asked for: made once, used again. */
        private final int[] latestMark = new int[KINDS];

        Replica(int site, Deeds deeds, Paths paths) {
            this.site = site;
            this.deeds = deeds;
            this.paths = paths;
            stream = site;
            for (int d = 0; d < MOST_DEEDS; d++) {
                fate[d] = NONE;
            }
            for (int k = 0; k < CURSORS; k++) {
                cursors[k] = NONE;
            }
        }

        int throwCoin() {
            stream = stream * 1664525 + 1013904223;
            return stream >>> 16;
        }

        int nextNumber() {
            return doneOf[site] + 1;
        }

        int doneInAll() {
            int all = 0;
            for (int r = 0; r < REPLICAS; r++) {
                all += doneOf[r];
            }
            return all;
        }

        boolean didDeed(int d) {
            return deeds.number[d] <= doneOf[deeds.owner[d]];
        }

        private boolean isReady(int d) {
            if (deeds.number[d] - 1 != doneOf[deeds.owner[d]]) {
                return false;
            }
            return deeds.sort[d] == TYPE || (didDeed(deeds.from[d]) && didDeed(deeds.to[d]));
        }

        /** A deed comes: whether it is done, waits, or is nothing. */
        int receive(int d) {
            if (didDeed(d) || waits[d]) {
                return IS_NOTHING;
            }
            if (!isReady(d)) {
                waits[d] = true;
                waiting++;
                return IT_WAITS;
            }
            carryOut(d);
            doWhatWaited();
            return IS_DONE;
        }

        private void doWhatWaited() {
            for (int round = 0; round < MOST_DEEDS && waiting > 0; round++) {
                int d = firstReady();
                if (d == NONE) {
                    return;
                }
                waits[d] = false;
                waiting--;
                carryOut(d);
            }
        }

        private int firstReady() {
            for (int d = 0; d < deeds.total; d++) {
                if (waits[d] && isReady(d)) {
                    return d;
                }
            }
            return NONE;
        }

        void carryOut(int d) {
            doneOf[deeds.owner[d]]++;
            time = Math.max(time, deeds.time[d]);
            int sort = deeds.sort[d];
            if (sort == TYPE) {
                signs++;
            } else if (sort == ERASE || sort == RAISE) {
                int named = deeds.from[d];
                if (fate[named] == NONE || deeds.isLater(d, fate[named])) {
                    fate[named] = d;
                }
            }
        }

        boolean isAlive(int sign) {
            return didDeed(sign) && (fate[sign] == NONE || deeds.sort[fate[sign]] != ERASE);
        }

        private int aliveAmongFirst(int ranks) {
            int alive = 0;
            for (int i = 0; i < ranks; i++) {
                if (isAlive(paths.order[i])) {
                    alive++;
                }
            }
            return alive;
        }

        int textLength() {
            return aliveAmongFirst(paths.total);
        }

        /** Whether a sign can be typed at a place, or a cursor set there. */
        boolean hasGap(int place) {
            return place >= 0 && place <= textLength();
        }

        /** The sign of the text at a place, or NONE. */
        int signAt(int place) {
            int left = place;
            for (int i = 0; i < paths.total && left >= 0; i++) {
                if (isAlive(paths.order[i])) {
                    if (left == 0) {
                        return paths.order[i];
                    }
                    left--;
                }
            }
            return NONE;
        }

        int signBefore(int place) {
            return place <= 0 ? NONE : signAt(place - 1);
        }

        /** The next sign that the replica has, living or not, behind one (or the beginning): or NONE. */
        int nextBehind(int sign) {
            for (int i = sign == NONE ? 0 : paths.rank[sign] + 1; i < paths.total; i++) {
                if (didDeed(paths.order[i])) {
                    return paths.order[i];
                }
            }
            return NONE;
        }

        int cursorPlace(int k) {
            int sign = cursors[k];
            return sign == NONE ? 0 : aliveAmongFirst(paths.rank[sign] + 1);
        }

        int kindsOf(int sign) {
            for (int kind = 0; kind < KINDS; kind++) {
                latestMark[kind] = NONE;
            }
            for (int i = 0; i < deeds.markTotal; i++) {
                int d = deeds.marks[i];
                int kind = deeds.value[d] % KINDS;
                if (isMarkedBy(sign, d) && (latestMark[kind] == NONE || deeds.isLater(d, latestMark[kind]))) {
                    latestMark[kind] = d;
                }
            }
            return bitsOfLatest();
        }

        private boolean isMarkedBy(int sign, int d) {
            int at = paths.rank[sign];
            return didDeed(d) && paths.rank[deeds.from[d]] <= at && at <= paths.rank[deeds.to[d]];
        }

        private int bitsOfLatest() {
            int bits = 0;
            for (int kind = 0; kind < KINDS; kind++) {
                int d = latestMark[kind];
                if (d != NONE && deeds.value[d] >= KINDS) {
                    bits |= 1 << kind;
                }
            }
            return bits;
        }
    }
}
