import java.util.ArrayList;
import java.util.Arrays;
import java.util.Comparator;
import java.util.HashSet;
import java.util.List;
import java.util.Set;
import java.util.TreeSet;

/**
 * The document once more, word by word and without care for speed: every answer is found anew from
 * the deeds that a replica has done. It shares no code and no way of holding state with SignRow.
 */
final class Model {
    static final int UNKNOWN = -101, OUTSIDE = -102, STATE = -103, ROOM = -104;
    /** Stands for an IndexOutOfBoundsException. */
    static final int THROWS = Integer.MIN_VALUE + 7;

    private static final class Level {
        int digit, site, count;

        Level(int digit, int site, int count) {
            this.digit = digit;
            this.site = site;
            this.count = count;
        }

        int[] parts() {
            return new int[] {digit, site, count};
        }
    }

    private static final class Deed {
        int id, who, n, time, sort, value;
        Deed first, last;
        List<Level> path;
        boolean undone, byUndoing;
    }

    private static final class Rep {
        int stream;
        final TreeSet<Integer> done = new TreeSet<>();
        final TreeSet<Integer> waits = new TreeSet<>();
        final Deed[] cursors = new Deed[4];
    }

    private final List<Deed> deeds = new ArrayList<>();
    private final List<int[]> messages = new ArrayList<>();
    private final Rep[] reps = new Rep[6];
    private int lost;

    private static final Comparator<Deed> BY_PATH = (a, b) -> {
        for (int i = 0; i < a.path.size() && i < b.path.size(); i++) {
            int c = Arrays.compare(a.path.get(i).parts(), b.path.get(i).parts());
            if (c != 0) {
                return c;
            }
        }
        return a.path.size() - b.path.size();
    };
    private static final Comparator<Deed> BY_TIME = (a, b) -> a.time != b.time ? a.time - b.time : a.who - b.who;

    Model() {
        for (int r = 0; r < 6; r++) {
            reps[r] = new Rep();
            reps[r].stream = r;
        }
    }

    private static boolean bad(int r) {
        return r < 0 || r > 5;
    }

    private List<Deed> done(int r) {
        List<Deed> all = new ArrayList<>();
        for (int id : reps[r].done) {
            all.add(deeds.get(id));
        }
        return all;
    }

    private List<Deed> signs(int r) {
        List<Deed> all = done(r);
        all.removeIf(d -> d.sort != 0);
        all.sort(BY_PATH);
        return all;
    }

    private List<Deed> text(int r) {
        List<Deed> byTime = done(r);
        byTime.sort(BY_TIME);
        Set<Deed> erased = new HashSet<>();
        for (Deed d : byTime) {
            if (d.sort == 1) {
                erased.add(d.first);
            } else if (d.sort == 2) {
                erased.remove(d.first);
            }
        }
        List<Deed> all = signs(r);
        all.removeIf(erased::contains);
        return all;
    }

    private int kindsOf(int r, Deed sign) {
        List<Deed> marks = done(r);
        marks.removeIf(d -> d.sort != 3 || BY_PATH.compare(d.first, sign) > 0 || BY_PATH.compare(sign, d.last) > 0);
        marks.sort(BY_TIME);
        boolean[] has = new boolean[8];
        for (Deed d : marks) {
            has[d.value % 8] = d.value >= 8;
        }
        int bits = 0;
        for (int kind = 7; kind >= 0; kind--) {
            bits = bits * 2 + (has[kind] ? 1 : 0);
        }
        return bits;
    }

    private int greatestTime(int r) {
        return done(r).stream().mapToInt(d -> d.time).max().orElse(0);
    }

    private int doneOf(int r, int q) {
        return (int) done(r).stream().filter(d -> d.who == q).count();
    }

    private List<Level> newPath(int r, int c, Deed p, Deed q) {
        List<Level> made = new ArrayList<>();
        boolean bound = q != null;
        for (int k = 1; k <= 12; k++) {
            Level ofP = p != null && p.path.size() >= k ? p.path.get(k - 1) : null;
            Level ofQ = bound ? q.path.get(k - 1) : null;
            int low = ofP == null ? 0 : ofP.digit;
            int high = ofQ == null ? (int) Math.min(4096, Math.pow(2, k + 3)) : ofQ.digit;
            if (high - low > 1) {
                reps[r].stream = (int) (reps[r].stream * 1664525L + 1013904223L);
                int coin = (int) ((reps[r].stream & 0xffffffffL) / 65536);
                int step = 1 + coin % Math.min(10, high - low - 1);
                made.add(new Level(k % 2 == 1 ? low + step : high - step, r, c));
                return made;
            }
            if (ofP != null) {
                made.add(ofP);
                if (bound && !Arrays.equals(ofP.parts(), ofQ.parts())) {
                    bound = false;
                }
            } else if (ofQ.digit == 0) {
                made.add(ofQ);
            } else {
                made.add(new Level(0, r, c));
                bound = false;
            }
        }
        return null;
    }

    private Deed make(int r, int sort, int value, Deed first, Deed last) {
        Deed d = new Deed();
        d.id = deeds.size();
        d.who = r;
        d.n = doneOf(r, r) + 1;
        d.time = greatestTime(r) + 1;
        d.sort = sort;
        d.value = value;
        d.first = first;
        d.last = last;
        return d;
    }

    private int launch(Deed d) {
        deeds.add(d);
        reps[d.who].done.add(d.id);
        for (int r = 0; r < 6; r++) {
            if (r != d.who) {
                if (messages.size() < 300) {
                    messages.add(new int[] {d.id, r});
                } else {
                    lost++;
                }
            }
        }
        return d.id;
    }

    private boolean can(int r, Deed d) {
        boolean before = d.n == 1 || done(r).stream().anyMatch(e -> e.who == d.who && e.n == d.n - 1);
        return before && (d.sort == 0 || reps[r].done.contains(d.first.id) && reps[r].done.contains(d.last.id));
    }

    private int comes(int r, Deed d) {
        if (reps[r].done.contains(d.id) || reps[r].waits.contains(d.id)) {
            return 0;
        }
        if (!can(r, d)) {
            reps[r].waits.add(d.id);
            return 2;
        }
        reps[r].done.add(d.id);
        boolean more = true;
        while (more) {
            more = false;
            for (int id : reps[r].waits) {
                if (can(r, deeds.get(id))) {
                    reps[r].waits.remove(id);
                    reps[r].done.add(id);
                    more = true;
                    break;
                }
            }
        }
        return 1;
    }

    int stream(int r, int v) {
        if (bad(r)) {
            return UNKNOWN;
        }
        int was = reps[r].stream;
        reps[r].stream = v;
        return was;
    }

    int type(int r, int place, int sign) {
        if (bad(r)) {
            return UNKNOWN;
        }
        List<Deed> text = text(r);
        if (place < 0 || place > text.size() || sign < 32 || sign > 126) {
            return OUTSIDE;
        }
        if (deeds.size() == 400) {
            return ROOM;
        }
        Deed p = place == 0 ? null : text.get(place - 1);
        Deed q = signs(r).stream().filter(s -> p == null || BY_PATH.compare(s, p) > 0).findFirst().orElse(null);
        Deed d = make(r, 0, sign, null, null);
        d.first = d;
        d.last = d;
        d.path = newPath(r, d.n, p, q);
        return d.path == null ? ROOM : launch(d);
    }

    int paste(int r, int place, int n, int sign) {
        if (bad(r)) {
            return UNKNOWN;
        }
        if (place < 0 || place > text(r).size() || n < 1 || n > 20 || sign < 32 || sign > 126) {
            return OUTSIDE;
        }
        int came = 0;
        while (came < n && type(r, place + came, 32 + (sign - 32 + came) % 95) != ROOM) {
            came++;
        }
        return came;
    }

    int erase(int r, int place) {
        if (bad(r)) {
            return UNKNOWN;
        }
        List<Deed> text = text(r);
        if (place < 0 || place >= text.size()) {
            return OUTSIDE;
        }
        return deeds.size() == 400 ? ROOM : launch(make(r, 1, 0, text.get(place), text.get(place)));
    }

    int undo(int r) {
        if (bad(r)) {
            return UNKNOWN;
        }
        Deed latest = deeds.stream().filter(d -> d.who == r && d.sort < 2 && !d.undone && !d.byUndoing).max(BY_TIME).orElse(null);
        if (latest == null) {
            return STATE;
        }
        if (deeds.size() == 400) {
            return ROOM;
        }
        latest.undone = true;
        Deed d = make(r, latest.sort + 1, 0, latest.first, latest.first);
        d.byUndoing = true;
        return launch(d);
    }

    int mark(int r, int from, int to, int kind, boolean on) {
        if (bad(r)) {
            return UNKNOWN;
        }
        List<Deed> text = text(r);
        if (from < 0 || to >= text.size() || from > to || kind < 0 || kind > 7) {
            return OUTSIDE;
        }
        return deeds.size() == 400 ? ROOM : launch(make(r, 3, kind + (on ? 8 : 0), text.get(from), text.get(to)));
    }

    private boolean noMessage(int i) {
        return i < 0 || i >= messages.size();
    }

    int deliver(int i) {
        if (noMessage(i)) {
            return UNKNOWN;
        }
        int[] m = messages.remove(i);
        return comes(m[1], deeds.get(m[0]));
    }

    int lose(int i) {
        if (noMessage(i)) {
            return UNKNOWN;
        }
        messages.remove(i);
        return messages.size();
    }

    int repeat(int i) {
        if (noMessage(i)) {
            return UNKNOWN;
        }
        if (messages.size() == 300) {
            return ROOM;
        }
        messages.add(messages.get(i).clone());
        return messages.size();
    }

    int sync(int r, int q) {
        if (bad(r) || bad(q)) {
            return UNKNOWN;
        }
        int before = reps[r].done.size();
        for (Deed d : done(q)) {
            comes(r, d);
        }
        return reps[r].done.size() - before;
    }

    int length(int r) {
        return bad(r) ? UNKNOWN : text(r).size();
    }

    private Deed signAt(int r, int place) {
        if (bad(r)) {
            return null;
        }
        List<Deed> text = text(r);
        return place < 0 || place >= text.size() ? null : text.get(place);
    }

    int sign(int r, int place) {
        Deed s = signAt(r, place);
        return s == null ? THROWS : s.value;
    }

    int path(int r, int place, int level, int what) {
        Deed s = signAt(r, place);
        if (s == null || what < 0 || what > 3) {
            return THROWS;
        }
        if (what == 0) {
            return s.path.size();
        }
        return level < 1 || level > s.path.size() ? THROWS : s.path.get(level - 1).parts()[what - 1];
    }

    int kinds(int r, int place) {
        Deed s = signAt(r, place);
        return s == null ? THROWS : kindsOf(r, s);
    }

    private int placeOf(int r, Deed sign) {
        return sign == null ? 0 : (int) text(r).stream().filter(s -> BY_PATH.compare(s, sign) <= 0).count();
    }

    int cursor(int r, int k, int place) {
        if (bad(r)) {
            return UNKNOWN;
        }
        if (k < 0 || k > 3 || place < 0 || place > text(r).size()) {
            return OUTSIDE;
        }
        int was = placeOf(r, reps[r].cursors[k]);
        reps[r].cursors[k] = place == 0 ? null : text(r).get(place - 1);
        return was;
    }

    int at(int r, int k) {
        return bad(r) ? UNKNOWN : k < 0 || k > 3 ? OUTSIDE : placeOf(r, reps[r].cursors[k]);
    }

    int about(int r, int q, int what) {
        if (bad(r) || what == 0 && bad(q)) {
            return UNKNOWN;
        }
        return what == 0 ? doneOf(r, q) : what == 1 ? reps[r].waits.size() : what == 2 ? greatestTime(r)
                : what == 3 ? signs(r).size() : OUTSIDE;
    }

    int same(int r, int q) {
        if (bad(r) || bad(q)) {
            return UNKNOWN;
        }
        List<Deed> one = text(r);
        if (!one.equals(text(q))) {
            return 0;
        }
        return one.stream().allMatch(s -> kindsOf(r, s) == kindsOf(q, s)) ? 1 : 0;
    }

    int deed(int id, int what) {
        if (id < 0 || id >= deeds.size()) {
            return UNKNOWN;
        }
        Deed d = deeds.get(id);
        int[] told = {d.who, d.n, d.time, d.sort, d.value, d.first.id};
        return what < 0 || what > 5 ? OUTSIDE : told[what];
    }

    int message(int i, int what) {
        return noMessage(i) ? UNKNOWN : what < 0 || what > 1 ? OUTSIDE : messages.get(i)[what];
    }

    int count(int what) {
        return what == 0 ? deeds.size() : what == 1 ? messages.size() : what == 2 ? lost : OUTSIDE;
    }
}
