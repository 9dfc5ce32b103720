import java.util.ArrayDeque;
import java.util.ArrayList;
import java.util.Arrays;
import java.util.Deque;
import java.util.HashMap;
import java.util.List;
import java.util.Map;
import java.util.TreeMap;
import java.util.regex.Matcher;
import java.util.regex.Pattern;

/** The document once more, as plainly as can be: slow, by brute force, with the whole library. */
final class Mirror {
    private static final int NONE = -1;
    private static final List<String> ALL = List.of("liking", "mood", "rival", "lock", "hour");
    private static final List<String> OF_GATES = List.of("draught", "above", "below", "up", "passes", "two");
    private static final List<String> OF_HEARTS = List.of("good", "amount", "taste", "presents");

    // ---- what is

    static final class Boat {
        int pool;
        int draught;
        int broad;
        int[] cargo = new int[4];

        Boat copy() {
            Boat b = new Boat();
            b.pool = pool;
            b.draught = draught;
            b.broad = broad;
            b.cargo = cargo.clone();
            return b;
        }
    }

    static final class Lock {
        int fill = 10;
        int leak = 0;
        int wide = 4;
        int passes = 0;
        int presents = 0;
        int mood = 0;
        int rival = NONE;
        int[] taste = new int[4];
        int[] liking = new int[6];

        Lock copy() {
            Lock l = new Lock();
            l.fill = fill;
            l.leak = leak;
            l.wide = wide;
            l.passes = passes;
            l.presents = presents;
            l.mood = mood;
            l.rival = rival;
            l.taste = taste.clone();
            l.liking = liking.clone();
            return l;
        }
    }

    interface Sum {
        int of(Map<String, Integer> facts);
    }

    interface Claim {
        boolean so(Map<String, Integer> facts);
    }

    record Line(Sum answer, Claim when) {
    }

    record Step(String sort, int a, int b, int c, int d) {
    }

    static final class World {
        int state = 0;
        int[] depth;
        int sea = 0;
        int hour = 0;
        int[] weather = new int[5];
        List<Lock> locks = new ArrayList<>();
        List<Boat> boats = new ArrayList<>();
        List<int[]> book = new ArrayList<>();
        List<Line> gates = List.of();
        List<Line> hearts = List.of();
        List<Step> plan = List.of();
        List<int[]> said = new ArrayList<>();
        int[] seen;
        int[] need;
        boolean thought = false;

        World(int n) {
            depth = new int[n + 1];
            Arrays.fill(depth, 100);
            seen = new int[n + 1];
            need = new int[n + 1];
            for (int i = 0; i < n; i++) {
                locks.add(new Lock());
            }
        }

        World copy() {
            World w = new World(0);
            w.state = state;
            w.depth = depth.clone();
            w.sea = sea;
            w.hour = hour;
            w.weather = weather.clone();
            locks.forEach(l -> w.locks.add(l.copy()));
            boats.forEach(b -> w.boats.add(b.copy()));
            w.book = new ArrayList<>(book);
            w.gates = gates;
            w.hearts = hearts;
            w.plan = plan;
            w.said = new ArrayList<>(said);
            w.seen = seen.clone();
            w.need = need.clone();
            return w;
        }

        World inThought() {
            World w = copy();
            w.thought = true;
            return w;
        }

        int n() {
            return locks.size();
        }

        boolean boat(int b) {
            return 0 <= b && b < boats.size();
        }

        boolean lock(int k) {
            return 0 <= k && k < n();
        }

        boolean pool(int p) {
            return 0 <= p && p <= n();
        }

        void comesInto(int pool, int water) {
            for (int i = 0; i < water; i++) {
                int p = pool;
                while (p <= n() && depth[p] == 999) {
                    p++;
                }
                if (p > n()) {
                    sea++;
                } else {
                    depth[p]++;
                }
            }
        }

        void flowsDown(int lock, int water) {
            depth[lock] -= water;
            comesInto(lock + 1, water);
        }

        void writes(int sort, int lock, int boat, int much) {
            if (book.size() < 150) {
                book.add(new int[] {hour, sort, lock, boat, much});
            }
        }

        Map<String, Integer> facts(int lock, int boat) {
            Map<String, Integer> f = new HashMap<>();
            Lock l = locks.get(lock);
            f.put("liking", l.liking[boat]);
            f.put("mood", l.mood);
            f.put("rival", l.rival == NONE ? 0 : locks.get(l.rival).liking[boat]);
            f.put("lock", lock);
            f.put("hour", hour);
            return f;
        }

        boolean lets(int lock, int boat, boolean up, boolean two) {
            Map<String, Integer> f = facts(lock, boat);
            f.put("draught", boats.get(boat).draught);
            f.put("above", depth[lock]);
            f.put("below", depth[lock + 1]);
            f.put("up", up ? 1 : 0);
            f.put("passes", locks.get(lock).passes);
            f.put("two", two ? 1 : 0);
            for (Line line : gates) {
                if (line.when == null || line.when.so(f)) {
                    return line.answer.of(f) == 1;
                }
            }
            return true;
        }

        int refused(int boat, boolean up, int with) {
            if (!boat(boat) || with != NONE && !boat(with) || with == boat) {
                return -1;
            }
            Boat b = boats.get(boat);
            int lock = up ? b.pool - 1 : b.pool;
            if (!lock(lock) || with != NONE && boats.get(with).pool != b.pool) {
                return -1;
            }
            List<Integer> going = with == NONE ? List.of(boat) : List.of(boat, with);
            Lock l = locks.get(lock);
            if (going.stream().mapToInt(i -> boats.get(i).broad).sum() > l.wide) {
                return -2;
            }
            for (int i : going) {
                if (!lets(lock, i, up, going.size() == 2)) {
                    return -3;
                }
            }
            if (depth[lock] < l.fill) {
                return -4;
            }
            World then = copy();
            then.flowsDown(lock, l.fill);
            for (int i : going) {
                if (boats.get(i).draught > then.depth[up ? lock : lock + 1]) {
                    return -5;
                }
            }
            return 0;
        }

        int passes(int boat, boolean up, int with) {
            int pool = boats.get(boat).pool;
            int lock = up ? pool - 1 : pool;
            int to = up ? pool - 1 : pool + 1;
            Lock l = locks.get(lock);
            flowsDown(lock, l.fill);
            boats.get(boat).pool = to;
            if (with != NONE) {
                boats.get(with).pool = to;
            }
            l.passes++;
            writes(0, lock, boat, l.fill);
            return lock;
        }

        boolean mayGive(int boat, int good, int amount, int lock) {
            if (!boat(boat) || good < 0 || good > 3 || amount < 1 || amount > 99 || !lock(lock)) {
                return false;
            }
            Boat b = boats.get(boat);
            return (b.pool == lock || b.pool == lock + 1) && b.cargo[good] >= amount;
        }

        static int hold(int v) {
            return v > 99 ? 99 : v < -99 ? -99 : v;
        }

        int gives(int boat, int good, int amount, int lock) {
            Lock l = locks.get(lock);
            Map<String, Integer> f = facts(lock, boat);
            f.put("good", good);
            f.put("amount", amount);
            f.put("taste", l.taste[good]);
            f.put("presents", l.presents);
            int d = l.taste[good] * amount;
            for (Line line : hearts) {
                if (line.when == null || line.when.so(f)) {
                    d = line.answer.of(f);
                    break;
                }
            }
            d = hold(d);
            l.liking[boat] = hold(l.liking[boat] + d);
            if (d > 0) {
                l.mood = hold(l.mood + 1);
                if (l.rival != NONE) {
                    Lock r = locks.get(l.rival);
                    r.liking[boat] = hold(r.liking[boat] - Math.floorDiv(d, 2));
                }
            }
            if (d < 0) {
                l.mood = hold(l.mood - 1);
            }
            l.presents++;
            boats.get(boat).cargo[good] -= amount;
            writes(1, lock, boat, amount);
            return d;
        }

        int pulls(int lock, int m) {
            int flowed = 0;
            Lock l = locks.get(lock);
            for (int i = 0; i < m; i++) {
                if (depth[lock] >= l.fill) {
                    flowsDown(lock, l.fill);
                    flowed++;
                }
            }
            if (flowed > 0) {
                writes(2, lock, NONE, flowed * l.fill);
            }
            return flowed;
        }

        int draw(int m) {
            state = state * 1664525 + 1013904223;
            long high = (state & 0xffffffffL) / 256;
            return (int) (high % m);
        }

        boolean hourGoes() {
            boolean rained = false;
            if (!thought && weather[0] > 0 && draw(1000) < weather[0]) {
                rained = true;
                comesInto(0, weather[1]);
                writes(3, NONE, NONE, weather[1]);
            }
            for (int k = 0; k < n(); k++) {
                flowsDown(k, Math.min(locks.get(k).leak, depth[k]));
            }
            if (weather[2] > 0 && (hour + 1) % weather[2] == 0) {
                sea -= weather[3];
                comesInto(n(), weather[3]);
                writes(4, NONE, NONE, weather[3]);
            }
            if (weather[4] == 1) {
                World ahead = copy();
                for (int k = 0; k < n() - 1; k++) {
                    for (int b = 0; b < boats.size(); b++) {
                        int own = ahead.locks.get(k).liking[b];
                        int next = ahead.locks.get(k + 1).liking[b];
                        locks.get(k).liking[b] = own < next ? own + 1 : own > next ? own - 1 : own;
                    }
                }
            }
            for (Lock l : locks) {
                l.mood = l.mood > 0 ? l.mood - 1 : l.mood < 0 ? l.mood + 1 : 0;
            }
            hour++;
            return rained;
        }

        /** Through how many locks, and by what it is refused then. */
        int[] far(int boat, boolean up) {
            int count = 0;
            int why = refused(boat, up, NONE);
            while (why == 0) {
                passes(boat, up, NONE);
                count++;
                why = refused(boat, up, NONE);
            }
            return new int[] {count, why};
        }

        int favourite(int lock) {
            int best = NONE;
            for (int b = boats.size() - 1; b >= 0; b--) {
                if (best == NONE || locks.get(lock).liking[b] >= locks.get(lock).liking[best]) {
                    best = b;
                }
            }
            return best;
        }
    }

    private World w = new World(4);
    private World image = null;
    private final Deque<World> past = new ArrayDeque<>();
    private final StringBuilder tape = new StringBuilder();
    private int fault = 0;
    private int place = NONE;

    private void keep() {
        past.addLast(w.copy());
        if (past.size() > 10) {
            past.removeFirst();
        }
    }

    private boolean told(boolean can) {
        if (can) {
            past.clear();
        }
        return can;
    }

    // ---- what is told

    int state(int v) {
        int was = w.state;
        w.state = v;
        past.clear();
        return was;
    }

    boolean canal(int n) {
        if (n < 1 || n > 9) {
            return false;
        }
        int state = w.state;
        w = new World(n);
        w.state = state;
        past.clear();
        return true;
    }

    boolean pool(int pool, int depth) {
        if (!w.pool(pool) || depth < 0 || depth > 999) {
            return false;
        }
        w.depth[pool] = depth;
        return told(true);
    }

    boolean lock(int lock, int what, int v) {
        if (!w.lock(lock)) {
            return false;
        }
        Lock l = w.locks.get(lock);
        if (what == 0 && v >= 1 && v <= 50) {
            l.fill = v;
        } else if (what == 1 && v >= 0 && v <= 9) {
            l.leak = v;
        } else if (what == 2 && v >= 1 && v <= 9) {
            l.wide = v;
        } else if (what == 3 && v >= -99 && v <= 99) {
            l.mood = v;
        } else if (what == 4 && (v == NONE || w.lock(v) && v != lock)) {
            l.rival = v;
        } else if (what >= 10 && what <= 13 && v >= -9 && v <= 9) {
            l.taste[what - 10] = v;
        } else if (what >= 20 && w.boat(what - 20) && v >= -99 && v <= 99) {
            l.liking[what - 20] = v;
        } else {
            return false;
        }
        return told(true);
    }

    int boat(int pool, int draught, int broad) {
        if (!w.pool(pool) || draught < 1 || draught > 99 || broad < 1 || broad > 9 || w.boats.size() == 6) {
            return NONE;
        }
        Boat b = new Boat();
        b.pool = pool;
        b.draught = draught;
        b.broad = broad;
        w.boats.add(b);
        told(true);
        return w.boats.size() - 1;
    }

    boolean load(int boat, int what, int v) {
        if (!w.boat(boat)) {
            return false;
        }
        Boat b = w.boats.get(boat);
        if (what == 0 && w.pool(v)) {
            b.pool = v;
        } else if (what == 1 && v >= 1 && v <= 99) {
            b.draught = v;
        } else if (what == 2 && v >= 1 && v <= 9) {
            b.broad = v;
        } else if (what >= 10 && what <= 13 && v >= 0 && v <= 99) {
            b.cargo[what - 10] = v;
        } else {
            return false;
        }
        return told(true);
    }

    boolean set(int what, int v) {
        int[] most = {1000, 99, 99, 99, 1};
        if (what < 0 || what > 4 || v < 0 || v > most[what]) {
            return false;
        }
        w.weather[what] = v;
        return told(true);
    }

    int feed(int a, int b, int c, int d, int e) {
        if (tape.length() > 380) {
            return NONE;
        }
        for (int v : new int[] {a, b, c, d, e}) {
            for (int i = 3; i >= 0; i--) {
                tape.append((char) (v >> 8 * i & 255));
            }
        }
        return tape.length();
    }

    boolean end(int n) {
        if (n < 0 || n > tape.length()) {
            return false;
        }
        tape.setLength(n);
        return true;
    }

    // ---- texts

    /** Thrown at the first place where something can't stand. */
    private static final class CantStand extends RuntimeException {
        private static final long serialVersionUID = 1L;
    }

    /** All faults are gathered; the first by its place, then the least, is told. */
    private static final class Reader {
        final TreeMap<Integer, Integer> faults = new TreeMap<>();
        final List<String> tokens = new ArrayList<>();
        final List<Integer> places = new ArrayList<>();
        final boolean hearts;
        int at = 0;
        int open = 0;

        Reader(String text, boolean hearts) {
            this.hearts = hearts;
            Matcher m = Pattern.compile("[A-Za-z]+|[0-9]+|[^ \n]").matcher(text);
            while (m.find()) {
                tokens.add(m.group());
                places.add(m.start());
            }
            tokens.add("");
            places.add(text.length());
        }

        void fault(int sort) {
            faults.merge(places.get(at), sort, Math::min);
        }

        CantStand cantStand() {
            fault(1);
            return new CantStand();
        }

        boolean is(String... words) {
            return Arrays.asList(words).contains(tokens.get(at));
        }

        String take(String... words) {
            if (!is(words)) {
                throw cantStand();
            }
            return tokens.get(at++);
        }

        int number(int low, int high) {
            if (!tokens.get(at).matches("[0-9]{1,4}")) {
                throw cantStand();
            }
            int v = Integer.parseInt(tokens.get(at));
            if (v < low || v > high) {
                fault(2);
            }
            at++;
            return v;
        }

        List<Line> law() {
            List<Line> lines = new ArrayList<>();
            while (!is("")) {
                if (lines.size() >= 16 && is(hearts ? new String[] {"like"} : new String[] {"let", "hold"})) {
                    fault(3);
                }
                Sum answer;
                if (hearts) {
                    take("like");
                    answer = sum();
                } else {
                    int yes = take("let", "hold").equals("let") ? 1 : 0;
                    answer = f -> yes;
                }
                Claim when = null;
                if (is("when")) {
                    take("when");
                    when = either();
                }
                take(";");
                lines.add(new Line(answer, when));
            }
            return lines;
        }

        Claim either() {
            Claim first = both();
            if (!is("or")) {
                return first;
            }
            take("or");
            Claim rest = either();
            return f -> first.so(f) || rest.so(f);
        }

        Claim both() {
            Claim first = claim();
            if (!is("and")) {
                return first;
            }
            take("and");
            Claim rest = both();
            return f -> first.so(f) && rest.so(f);
        }

        Claim claim() {
            if (is("not", "(")) {
                if (open >= 8) {
                    fault(3);
                }
                open++;
                Claim inner;
                boolean not = is("not");
                at++;
                if (not) {
                    Claim denied = claim();
                    inner = f -> !denied.so(f);
                } else {
                    inner = either();
                    take(")");
                }
                open--;
                return inner;
            }
            Sum left = sum();
            String sign = take("<", "=", ">");
            Sum right = sum();
            return f -> {
                int c = Integer.compare(left.of(f), right.of(f));
                return sign.equals("<") ? c < 0 : sign.equals("=") ? c == 0 : c > 0;
            };
        }

        Sum sum() {
            Sum all = product();
            while (is("+", "-")) {
                Sum left = all;
                int sign = take("+", "-").equals("+") ? 1 : -1;
                Sum right = product();
                all = f -> left.of(f) + sign * right.of(f);
            }
            return all;
        }

        Sum product() {
            Sum all = unit();
            while (is("*", "/")) {
                Sum left = all;
                if (take("*", "/").equals("*")) {
                    Sum right = unit();
                    all = f -> left.of(f) * right.of(f);
                } else {
                    int by = number(1, 9999);
                    all = f -> left.of(f) / by;
                }
            }
            return all;
        }

        Sum unit() {
            String token = tokens.get(at);
            if (ALL.contains(token) || (hearts ? OF_HEARTS : OF_GATES).contains(token)) {
                at++;
                return f -> f.get(token);
            }
            int v = number(0, 9999);
            return f -> v;
        }

        List<Step> plan(int locks, int boats) {
            List<Step> steps = new ArrayList<>();
            while (!is("")) {
                if (steps.size() >= 30 && is("pass", "give", "pull", "wait")) {
                    fault(3);
                }
                String sort = take("pass", "give", "pull", "wait");
                int a = 0;
                int b = 0;
                int c = 0;
                int d = 0;
                if (sort.equals("pass")) {
                    a = number(0, boats - 1);
                    b = take("up", "down").equals("up") ? 1 : 0;
                    c = NONE;
                    if (is("with")) {
                        take("with");
                        c = number(0, boats - 1);
                    }
                } else if (sort.equals("give")) {
                    a = number(1, 99);
                    take("of");
                    b = number(0, 3);
                    take("to");
                    c = number(0, locks - 1);
                    take("by");
                    d = number(0, boats - 1);
                } else if (sort.equals("pull")) {
                    a = number(0, locks - 1);
                    b = number(1, 9);
                } else {
                    a = number(1, 99);
                }
                take(";");
                steps.add(new Step(sort, a, b, c, d));
            }
            return steps;
        }
    }

    int text(int which) {
        fault = 0;
        place = NONE;
        Reader reader = new Reader(tape.toString(), which == 1);
        tape.setLength(0);
        if (which < 0 || which > 2) {
            return NONE;
        }
        List<Line> law = List.of();
        List<Step> plan = List.of();
        try {
            if (which == 2) {
                plan = reader.plan(w.n(), w.boats.size());
            } else {
                law = reader.law();
            }
        } catch (CantStand e) {
            // it stands among the faults
        }
        if (!reader.faults.isEmpty()) {
            place = reader.faults.firstKey();
            fault = reader.faults.get(place);
            return NONE;
        }
        if (which == 0) {
            w.gates = law;
        } else if (which == 1) {
            w.hearts = law;
        } else {
            w.plan = plan;
        }
        return which == 2 ? plan.size() : law.size();
    }

    int fault(int what) {
        return what == 0 ? fault : what == 1 ? place : NONE;
    }

    // ---- what is done

    int pass(int boat, boolean up, int with) {
        int why = w.refused(boat, up, with);
        if (why != 0) {
            return why;
        }
        keep();
        return w.passes(boat, up, with);
    }

    int give(int boat, int good, int amount, int lock) {
        if (!w.mayGive(boat, good, amount, lock)) {
            return -1000;
        }
        keep();
        return w.gives(boat, good, amount, lock);
    }

    int pull(int lock, int m) {
        if (!w.lock(lock) || m < 1 || m > 9) {
            return NONE;
        }
        keep();
        return w.pulls(lock, m);
    }

    int hours(int n) {
        if (n < 1 || n > 100 || w.hour + n > 9999) {
            return NONE;
        }
        int rained = 0;
        for (int i = 0; i < n; i++) {
            keep();
            rained += w.hourGoes() ? 1 : 0;
        }
        return rained;
    }

    int run() {
        int done = 0;
        for (Step s : w.plan) {
            int answer;
            switch (s.sort) {
                case "pass": answer = pass(s.a, s.b == 1, s.c); break;
                case "give": answer = give(s.d, s.b, s.a, s.c) == -1000 ? NONE : 0; break;
                case "pull": answer = pull(s.a, s.b); break;
                default: answer = hours(s.a); break;
            }
            if (answer < 0) {
                return done;
            }
            done++;
        }
        return done;
    }

    // ---- what is to be seen

    int depth(int pool) {
        return w.pool(pool) ? w.depth[pool] : NONE;
    }

    int at(int lock, int what) {
        if (!w.lock(lock)) {
            return -1000;
        }
        Lock l = w.locks.get(lock);
        if (what >= 10 && what <= 13) {
            return l.taste[what - 10];
        }
        if (what >= 20 && w.boat(what - 20)) {
            return l.liking[what - 20];
        }
        int[] all = {l.fill, l.leak, l.wide, l.mood, l.rival, l.passes, l.presents, w.favourite(lock)};
        return what >= 0 && what < 8 ? all[what] : -1000;
    }

    int of(int boat, int what) {
        if (!w.boat(boat)) {
            return NONE;
        }
        Boat b = w.boats.get(boat);
        if (what >= 10 && what <= 13) {
            return b.cargo[what - 10];
        }
        return what == 0 ? b.pool : what == 1 ? b.draught : what == 2 ? b.broad : NONE;
    }

    int book(int i, int what) {
        return i >= 0 && i < w.book.size() && what >= 0 && what <= 4 ? w.book.get(i)[what] : NONE;
    }

    // ---- in thought

    int far(int boat, boolean up, int what) {
        if (!w.boat(boat) || what != 0 && what != 1) {
            return -1000;
        }
        return w.inThought().far(boat, up)[what];
    }

    /** All ways to give, the fewest first, then the lesser amounts. */
    int please(int boat, int good, int pool, int what) {
        if (!w.boat(boat) || good < 0 || good > 3 || !w.pool(pool)) {
            return NONE;
        }
        if (what != 0 && (what < 10 || what >= 10 + w.n())) {
            return NONE;
        }
        int from = w.boats.get(boat).pool;
        int way = Math.abs(pool - from);
        boolean up = pool < from;
        for (int all = 0; all <= 6 && all <= w.boats.get(boat).cargo[good]; all++) {
            for (int[] amounts : ways(way, all)) {
                if (comes(boat, good, up, amounts)) {
                    if (what == 0) {
                        return all;
                    }
                    int step = up ? from - 1 - (what - 10) : what - 10 - from;
                    return step >= 0 && step < way ? amounts[step] : 0;
                }
            }
        }
        return NONE;
    }

    private static List<int[]> ways(int parts, int all) {
        List<int[]> ways = new ArrayList<>();
        if (parts == 0) {
            if (all == 0) {
                ways.add(new int[0]);
            }
            return ways;
        }
        for (int first = 0; first <= all; first++) {
            for (int[] rest : ways(parts - 1, all - first)) {
                int[] way = new int[parts];
                way[0] = first;
                System.arraycopy(rest, 0, way, 1, parts - 1);
                ways.add(way);
            }
        }
        return ways;
    }

    private boolean comes(int boat, int good, boolean up, int[] amounts) {
        World t = w.inThought();
        for (int amount : amounts) {
            int p = t.boats.get(boat).pool;
            if (amount > 0) {
                t.gives(boat, good, amount, up ? p - 1 : p);
            }
            if (t.refused(boat, up, NONE) != 0) {
                return false;
            }
            t.passes(boat, up, NONE);
        }
        return true;
    }

    int said(int pool, int how, int v) {
        if (pool == NONE) {
            w.said.clear();
            return 0;
        }
        if (!w.pool(pool) || how != 0 && how != 1 || v < 0 || v > 999 || w.said.size() == 12) {
            return NONE;
        }
        w.said.add(new int[] {pool, how, v});
        return w.said.size();
    }

    private int bound(int pool, int how, int v) {
        for (int[] s : w.said) {
            if (s[0] == pool && s[1] == how) {
                v = how == 0 ? Math.max(v, s[2]) : Math.min(v, s[2]);
            }
        }
        return v;
    }

    /** Whether the pool could be so deep: the others take the rest as well as they can. */
    private boolean couldBe(int pool, int v) {
        int least = v;
        int most = v;
        for (int p = 0; p <= w.n(); p++) {
            int low = bound(p, 0, 0);
            int high = bound(p, 1, 999);
            if (low > high || p == pool && (v < low || v > high)) {
                return false;
            }
            if (p != pool) {
                least += low;
                most += high;
            }
        }
        int all = Arrays.stream(w.depth).sum();
        return least <= all && all <= most;
    }

    int range(int pool, int what) {
        if (!w.pool(pool) || what != 0 && what != 1) {
            return NONE;
        }
        int found = NONE;
        for (int v = 0; v <= 999; v++) {
            if (couldBe(pool, v) && (what == 1 || found == NONE)) {
                found = v;
            }
        }
        return found;
    }

    boolean tell(int what, int pool, int v) {
        if (what != 0 && what != 1 || !w.pool(pool) || v < 0 || v > 999) {
            return false;
        }
        (what == 0 ? w.seen : w.need)[pool] = v;
        return true;
    }

    int pulled(int what) {
        List<int[]> ways = new ArrayList<>();
        for (int k = 0; k < w.n(); k++) {
            for (int m = 1; m <= 20; m++) {
                World t = w.inThought();
                t.depth = w.seen.clone();
                boolean there = true;
                for (int i = 0; i < m && there; i++) {
                    there = t.depth[k] >= t.locks.get(k).fill;
                    if (there) {
                        t.flowsDown(k, t.locks.get(k).fill);
                    }
                }
                if (there && Arrays.equals(t.depth, w.depth)) {
                    ways.add(new int[] {k, m});
                }
            }
        }
        if (what == 0) {
            return ways.size();
        }
        return what < 0 || what > 2 || ways.isEmpty() ? NONE : ways.get(0)[what - 1];
    }

    /** Pulls one more wherever one is wanting, till none is. */
    int mend(int what) {
        if (what != 0 && (what < 10 || what >= 10 + w.n())) {
            return NONE;
        }
        int[] pulls = new int[w.n()];
        int[] depth = w.depth.clone();
        boolean wanting = true;
        while (wanting) {
            wanting = false;
            for (int p = 1; p <= w.n(); p++) {
                if (depth[p] < w.need[p]) {
                    wanting = true;
                    pulls[p - 1]++;
                    depth[p] += w.locks.get(p - 1).fill;
                    depth[p - 1] -= w.locks.get(p - 1).fill;
                }
            }
        }
        if (depth[0] < w.need[0]) {
            return NONE;
        }
        return what == 0 ? Arrays.stream(pulls).sum() : pulls[what - 10];
    }

    private static void orders(List<Integer> done, List<Integer> left, List<List<Integer>> all) {
        if (left.isEmpty()) {
            all.add(new ArrayList<>(done));
        }
        for (Integer b : left) {
            List<Integer> rest = new ArrayList<>(left);
            rest.remove(b);
            List<Integer> more = new ArrayList<>(done);
            more.add(b);
            orders(more, rest, all);
        }
    }

    private List<Integer> set(int boats) {
        List<Integer> set = new ArrayList<>();
        for (int b = 0; b < 32; b++) {
            if ((boats >>> b & 1) == 1) {
                set.add(b);
            }
        }
        return set;
    }

    int order(int boats, boolean up, int what) {
        List<Integer> set = set(boats);
        if (set.isEmpty() || set.size() > 5 || set.get(set.size() - 1) >= w.boats.size()) {
            return NONE;
        }
        if (what != 0 && (what < 10 || what >= 10 + set.size())) {
            return NONE;
        }
        List<List<Integer>> all = new ArrayList<>();
        orders(List.of(), set, all);
        int most = -1;
        List<Integer> best = null;
        for (List<Integer> order : all) {
            World t = w.inThought();
            int gone = 0;
            for (int b : order) {
                gone += t.far(b, up)[0];
            }
            if (gone > most) {
                most = gone;
                best = order;
            }
        }
        return what == 0 ? most : best.get(what - 10);
    }

    /** Pairs up in every order, each with the next one if it can. */
    int share(int boats, boolean up) {
        List<Integer> set = set(boats);
        if (set.isEmpty() || set.get(set.size() - 1) >= w.boats.size()) {
            return NONE;
        }
        int pool = w.boats.get(set.get(0)).pool;
        int lock = up ? pool - 1 : pool;
        if (!w.lock(lock)) {
            return NONE;
        }
        int wide = w.locks.get(lock).wide;
        for (int b : set) {
            if (w.boats.get(b).pool != pool || w.boats.get(b).broad > wide) {
                return NONE;
            }
        }
        List<List<Integer>> all = new ArrayList<>();
        orders(List.of(), set, all);
        int fewest = 99;
        for (List<Integer> order : all) {
            int passings = 0;
            int i = 0;
            while (i < order.size()) {
                boolean two = i + 1 < order.size()
                    && w.boats.get(order.get(i)).broad + w.boats.get(order.get(i + 1)).broad <= wide;
                i += two ? 2 : 1;
                passings++;
            }
            fewest = Math.min(fewest, passings);
        }
        return fewest;
    }

    int later(int n, int what, int a, int b) {
        boolean can = what == 0 && w.pool(a) || what == 1 && w.lock(a) || what == 2 && w.lock(a) && w.boat(b);
        if (n < 0 || n > 200 || !can) {
            return -1000;
        }
        World t = w.inThought();
        for (int i = 0; i < n; i++) {
            t.hourGoes();
        }
        return what == 0 ? t.depth[a] : what == 1 ? t.locks.get(a).mood : t.locks.get(a).liking[b];
    }

    int envy() {
        int set = 0;
        for (int k = 0; k < w.n(); k++) {
            int fav = w.favourite(k);
            int rival = w.locks.get(k).rival;
            if (fav != NONE && rival != NONE && w.locks.get(rival).liking[fav] > w.locks.get(k).liking[fav]) {
                set += 1 << k;
            }
        }
        return set;
    }

    int smile(int pool) {
        int last = NONE;
        for (int i = 0; w.pool(pool) && i < w.book.size(); i++) {
            int[] line = w.book.get(i);
            boolean through = (line[1] == 0 || line[1] == 2) && line[2] == pool - 1;
            if (through || line[1] == 3 && pool == 0 || line[1] == 4 && pool == w.n()) {
                last = i;
            }
        }
        return last;
    }

    int planned(int what) {
        if (what < 0 || what > 3) {
            return -1000;
        }
        World t = w.inThought();
        int[] told = new int[4];
        for (Step s : t.plan) {
            if (s.sort.equals("pass")) {
                told[1] = t.refused(s.a, s.b == 1, s.c);
                if (told[1] == 0) {
                    t.passes(s.a, s.b == 1, s.c);
                    told[2]++;
                }
            } else if (s.sort.equals("give")) {
                told[1] = t.mayGive(s.d, s.b, s.a, s.c) ? 0 : NONE;
                if (told[1] == 0) {
                    t.gives(s.d, s.b, s.a, s.c);
                    told[3] += s.a;
                }
            } else if (s.sort.equals("pull")) {
                told[2] += t.pulls(s.a, s.b);
            } else {
                told[1] = t.hour + s.a > 9999 ? NONE : 0;
                for (int i = 0; i < s.a && told[1] == 0; i++) {
                    t.hourGoes();
                }
            }
            if (told[1] != 0) {
                break;
            }
            told[0]++;
        }
        return told[what];
    }

    boolean undo() {
        if (past.isEmpty()) {
            return false;
        }
        World then = past.removeLast();
        then.gates = w.gates;
        then.hearts = w.hearts;
        then.plan = w.plan;
        then.said = w.said;
        then.seen = w.seen;
        then.need = w.need;
        w = then;
        return true;
    }

    boolean image(boolean taken) {
        if (taken) {
            image = w.copy();
            return true;
        }
        if (image == null) {
            return false;
        }
        w = image.copy();
        past.clear();
        return true;
    }

    int look(int what) {
        int[] first = {w.n(), w.boats.size(), w.hour, w.sea, w.book.size(), w.state, w.gates.size(), w.hearts.size(),
            w.plan.size(), past.size(), w.said.size(), Arrays.stream(w.depth).sum()};
        if (what >= 0 && what <= 11) {
            return first[what];
        }
        if (what >= 20 && what <= 24) {
            return w.weather[what - 20];
        }
        if (what >= 30 && what < 40 && w.pool(what - 30)) {
            return w.seen[what - 30];
        }
        if (what >= 40 && what < 50 && w.pool(what - 40)) {
            return w.need[what - 40];
        }
        return -100000;
    }
}
