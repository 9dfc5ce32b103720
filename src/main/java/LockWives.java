import java.util.Arrays;

/** A canal whose locks are kept by women who let water down only to whom they like. */
public final class LockWives {
    public static final int NONE = -1;

    private static final int MOST_LOCKS = 9;
    private static final int MOST_POOLS = MOST_LOCKS + 1;
    private static final int MOST_BOATS = 6;
    private static final int GOODS = 4;
    private static final int DEEPEST = 999;
    private static final int MOST_FEELING = 99;
    private static final int LAST_HOUR = 9999;
    private static final int IMPOSSIBLE = NONE - 999;
    private static final int NO_SUCH_LOOK = NONE - 99999;

    private final Whole now = new Whole();
    private final Whole picture = new Whole();
    private final Past past = new Past(now);
    private final Thought thought = new Thought(now);
    private final Tape tape = new Tape();
    private boolean pictured = false;

    public LockWives() {
        now.begin(4);
        now.canal.writeInto(now.book, past);
    }

    // ---- what is told

    public int state(int v) {
        int was = now.canal.draws;
        now.canal.draws = v;
        past.forget();
        return was;
    }

    public boolean canal(int n) {
        if (!within(n, 1, MOST_LOCKS)) {
            return false;
        }
        now.begin(n);
        past.forget();
        return true;
    }

    public boolean pool(int pool, int depth) {
        return forgetIf(now.canal.hasPool(pool) && put(now.canal.depth, pool, depth, 0, DEEPEST));
    }

    public boolean lock(int lock, int what, int v) {
        return forgetIf(now.canal.hasLock(lock) && tellOfLock(lock, what, v));
    }

    public int boat(int pool, int draught, int broad) {
        Fleet fleet = now.canal.fleet;
        boolean can = now.canal.hasPool(pool) && within(draught, 1, 99) && within(broad, 1, 9);
        if (!forgetIf(can && fleet.count < MOST_BOATS)) {
            return NONE;
        }
        return fleet.add(pool, draught, broad);
    }

    public boolean load(int boat, int what, int v) {
        return forgetIf(now.canal.fleet.has(boat) && tellOfBoat(boat, what, v));
    }

    public boolean set(int what, int v) {
        return forgetIf(tellOfWeather(what, v));
    }

    public int feed(int a, int b, int c, int d, int e) {
        if (tape.length + 20 > Tape.MOST) {
            return NONE;
        }
        tape.add(a);
        tape.add(b);
        tape.add(c);
        tape.add(d);
        tape.add(e);
        return tape.length;
    }

    public boolean end(int n) {
        if (!within(n, 0, tape.length)) {
            return false;
        }
        tape.length = n;
        return true;
    }

    public int text(int which) {
        tape.clearFault();
        tape.split();
        int lines = NONE;
        if (which == 0) {
            lines = now.gates.read(tape);
        } else if (which == 1) {
            lines = now.hearts.read(tape);
        } else if (which == 2) {
            lines = now.plan.read(tape, now.canal.locks, now.canal.fleet.count);
        }
        // Whatever came of it, even of no such one: only the LAW or THE PLAN stays as it was.
        tape.length = 0;
        return lines;
    }

    public int fault(int what) {
        if (what == 0) {
            return tape.fault;
        }
        return what == 1 ? tape.faultPlace : NONE;
    }

    // ---- what is done

    public int pass(int boat, boolean up, int with) {
        return now.canal.passing(boat, up, with);
    }

    public int give(int boat, int good, int amount, int lock) {
        return now.canal.giving(boat, good, amount, lock);
    }

    public int pull(int lock, int m) {
        return now.canal.pulling(lock, m);
    }

    public int hours(int n) {
        return now.canal.waiting(n);
    }

    public int run() {
        return now.plan.carryOut(now.canal);
    }

    // ---- what is

    public int depth(int pool) {
        return now.canal.hasPool(pool) ? now.canal.depth[pool] : NONE;
    }

    public int at(int lock, int what) {
        Canal canal = now.canal;
        if (!canal.hasLock(lock)) {
            return IMPOSSIBLE;
        }
        switch (what) {
            case 0: return canal.fill[lock];
            case 1: return canal.leak[lock];
            case 2: return canal.wide[lock];
            case 3: return canal.keepers.mood[lock];
            case 4: return canal.keepers.rival[lock];
            case 5: return canal.passes[lock];
            case 6: return canal.keepers.presents[lock];
            case 7: return canal.keepers.favourite(lock, canal.fleet.count);
            default: break;
        }
        if (within(what, 10, 9 + GOODS)) {
            return canal.keepers.tasteFor(lock, what - 10);
        }
        if (within(what, 20, 19 + canal.fleet.count)) {
            return canal.keepers.likingOf(lock, what - 20);
        }
        return IMPOSSIBLE;
    }

    public int of(int boat, int what) {
        Fleet fleet = now.canal.fleet;
        if (!fleet.has(boat)) {
            return NONE;
        }
        switch (what) {
            case 0: return fleet.where[boat];
            case 1: return fleet.draught[boat];
            case 2: return fleet.broad[boat];
            default: break;
        }
        return within(what, 10, 9 + GOODS) ? fleet.cargoOf(boat, what - 10) : NONE;
    }

    public int book(int i, int what) {
        boolean is = within(i, 0, now.book.count - 1) && within(what, 0, Book.WIDTH - 1);
        return is ? now.book.entry(i, what) : NONE;
    }

    // ---- in thought

    public int far(int boat, boolean up, int what) {
        if (!now.canal.fleet.has(boat) || !within(what, 0, 1)) {
            return IMPOSSIBLE;
        }
        int gone = thought.goFar(thought.start(now.canal), boat, up);
        return what == 0 ? gone : thought.why;
    }

    public int please(int boat, int good, int pool, int what) {
        Canal canal = now.canal;
        boolean can = canal.fleet.has(boat) && within(good, 0, GOODS - 1) && canal.hasPool(pool);
        boolean ofLock = within(what, 10, 9 + canal.locks);
        if (!can || what != 0 && !ofLock) {
            return NONE;
        }
        int fewest = thought.fewestPresents(canal, boat, good, pool);
        return fewest == NONE || !ofLock ? fewest : thought.given[what - 10];
    }

    public int said(int pool, int how, int v) {
        Hearsay hearsay = now.hearsay;
        if (pool == NONE) {
            hearsay.count = 0;
            return 0;
        }
        boolean can = now.canal.hasPool(pool) && within(how, 0, 1) && within(v, 0, DEEPEST);
        return can ? hearsay.add(pool, how, v) : NONE;
    }

    public int range(int pool, int what) {
        if (!now.canal.hasPool(pool) || !within(what, 0, 1)) {
            return NONE;
        }
        return now.hearsay.bound(now.canal, pool, what == 0);
    }

    public boolean tell(int what, int pool, int v) {
        if (!now.canal.hasPool(pool) || !within(what, 0, 1)) {
            return false;
        }
        return put(what == 0 ? now.hearsay.seen : now.hearsay.need, pool, v, 0, DEEPEST);
    }

    public int pulled(int what) {
        if (!within(what, 0, 2)) {
            return NONE;
        }
        int ways = thought.findPulls(now.canal, now.hearsay.seen);
        if (what == 0) {
            return ways;
        }
        return what == 1 ? thought.pulledLock : thought.pulledTimes;
    }

    public int mend(int what) {
        boolean ofLock = within(what, 10, 9 + now.canal.locks);
        if (what != 0 && !ofLock) {
            return NONE;
        }
        int pulls = now.hearsay.fewestPulls(now.canal);
        return pulls == NONE || !ofLock ? pulls : now.hearsay.pulls[what - 10];
    }

    public int order(int boats, boolean up, int what) {
        int size = Integer.bitCount(boats);
        boolean ofBoat = within(what, 10, 9 + size);
        boolean can = now.canal.fleet.hasAll(boats) && size < MOST_BOATS;
        if (!can || what != 0 && !ofBoat) {
            return NONE;
        }
        thought.start(now.canal);
        thought.most = NONE;
        thought.tryOrders(0, boats, up, 0);
        return ofBoat ? thought.best[what - 10] : thought.most;
    }

    public int share(int boats, boolean up) {
        Canal canal = now.canal;
        if (!canal.fleet.hasAll(boats) || !canal.fleet.areTogether(boats)) {
            return NONE;
        }
        int lock = canal.lockOnWay(canal.fleet.poolOfFirst(boats), up);
        if (lock == NONE || canal.fleet.broadest(boats) > canal.wide[lock]) {
            return NONE;
        }
        return canal.fleet.fewestPassings(boats, 0, canal.wide[lock]);
    }

    public int later(int n, int what, int a, int b) {
        Canal canal = now.canal;
        boolean ofPool = what == 0 && canal.hasPool(a);
        boolean ofMood = what == 1 && canal.hasLock(a);
        boolean ofLiking = what == 2 && canal.hasLock(a) && canal.fleet.has(b);
        if (!within(n, 0, 200) || !ofPool && !ofMood && !ofLiking) {
            return IMPOSSIBLE;
        }
        Canal then = thought.start(canal);
        for (int i = 0; i < n; i++) {
            then.oneHour();
        }
        if (ofPool) {
            return then.depth[a];
        }
        return ofMood ? then.keepers.mood[a] : then.keepers.likingOf(a, b);
    }

    public int envy() {
        return now.canal.keepers.envious(now.canal.locks, now.canal.fleet.count);
    }

    public int smile(int pool) {
        return now.canal.hasPool(pool) ? now.book.lastInto(pool, now.canal.locks) : NONE;
    }

    public int planned(int what) {
        if (!within(what, 0, 3)) {
            return IMPOSSIBLE;
        }
        Plan plan = now.plan;
        int done = plan.carryOut(thought.start(now.canal));
        switch (what) {
            case 0: return done;
            case 1: return plan.why;
            case 2: return plan.fills;
            default: return plan.goods;
        }
    }

    public boolean undo() {
        return past.goBack(now.canal);
    }

    public boolean image(boolean taken) {
        if (taken) {
            picture.copyFrom(now);
            pictured = true;
        } else if (pictured) {
            now.copyFrom(picture);
            past.forget();
        }
        return pictured;
    }

    public int look(int what) {
        Canal canal = now.canal;
        switch (what) {
            case 0: return canal.locks;
            case 1: return canal.fleet.count;
            case 2: return canal.hour;
            case 3: return canal.sea;
            case 4: return now.book.count;
            case 5: return canal.draws;
            case 6: return now.gates.lines;
            case 7: return now.hearts.lines;
            case 8: return now.plan.count;
            case 9: return past.count;
            case 10: return now.hearsay.count;
            case 11: return canal.allWater();
            default: break;
        }
        if (within(what, 20, 19 + Canal.WEATHERS)) {
            return canal.weather[what - 20];
        }
        if (within(what, 30, 30 + canal.locks)) {
            return now.hearsay.seen[what - 30];
        }
        return within(what, 40, 40 + canal.locks) ? now.hearsay.need[what - 40] : NO_SUCH_LOOK;
    }

    // ---- helpers

    private boolean forgetIf(boolean told) {
        if (told) {
            past.forget();
        }
        return told;
    }

    private boolean tellOfLock(int lock, int what, int v) {
        Canal canal = now.canal;
        Keepers keepers = canal.keepers;
        switch (what) {
            case 0: return put(canal.fill, lock, v, 1, 50);
            case 1: return put(canal.leak, lock, v, 0, 9);
            case 2: return put(canal.wide, lock, v, 1, 9);
            case 3: return put(keepers.mood, lock, v, -MOST_FEELING, MOST_FEELING);
            case 4: return v != lock && put(keepers.rival, lock, v, NONE, canal.locks - 1);
            default: break;
        }
        if (within(what, 10, 9 + GOODS)) {
            return put(keepers.taste, lock * GOODS + what - 10, v, -9, 9);
        }
        boolean ofBoat = within(what, 20, 19 + canal.fleet.count);
        return ofBoat && put(keepers.liking, lock * MOST_BOATS + what - 20, v, -MOST_FEELING, MOST_FEELING);
    }

    private boolean tellOfBoat(int boat, int what, int v) {
        Fleet fleet = now.canal.fleet;
        switch (what) {
            case 0: return put(fleet.where, boat, v, 0, now.canal.locks);
            case 1: return put(fleet.draught, boat, v, 1, 99);
            case 2: return put(fleet.broad, boat, v, 1, 9);
            default: break;
        }
        return within(what, 10, 9 + GOODS) && put(fleet.cargo, boat * GOODS + what - 10, v, 0, 99);
    }

    private boolean tellOfWeather(int what, int v) {
        switch (what) {
            case Canal.RAIN: return put(now.canal.weather, what, v, 0, 1000);
            case Canal.SHOWER:
            case Canal.PERIOD:
            case Canal.SPRING: return put(now.canal.weather, what, v, 0, 99);
            case Canal.GOSSIP: return put(now.canal.weather, what, v, 0, 1);
            default: return false;
        }
    }

    private static boolean within(int v, int low, int high) {
        return v >= low && v <= high;
    }

    private static int held(int v) {
        if (v > MOST_FEELING) {
            return MOST_FEELING;
        }
        return v < -MOST_FEELING ? -MOST_FEELING : v;
    }

    private static boolean put(int[] row, int index, int v, int low, int high) {
        if (!within(index, 0, row.length - 1) || !within(v, low, high)) {
            return false;
        }
        row[index] = v;
        return true;
    }

    /** All that the image keeps. */
    private static final class Whole {
        final Law gates = new Law(false);
        final Law hearts = new Law(true);
        final Plan plan = new Plan();
        final Hearsay hearsay = new Hearsay();
        final Book book = new Book();
        final Canal canal = new Canal(gates, hearts);

        void begin(int locks) {
            gates.clear();
            hearts.clear();
            plan.count = 0;
            hearsay.clear();
            book.count = 0;
            canal.begin(locks);
        }

        void copyFrom(Whole other) {
            gates.copyFrom(other.gates);
            hearts.copyFrom(other.hearts);
            plan.copyFrom(other.plan);
            hearsay.copyFrom(other.hearsay);
            book.copyFrom(other.book);
            canal.copyFrom(other.canal);
        }
    }

    /** The boats, by their numbers. */
    private static final class Fleet {
        int count = 0;
        final int[] where = new int[MOST_BOATS];
        final int[] draught = new int[MOST_BOATS];
        final int[] broad = new int[MOST_BOATS];
        final int[] cargo = new int[MOST_BOATS * GOODS];

        void copyFrom(Fleet other) {
            count = other.count;
            System.arraycopy(other.where, 0, where, 0, where.length);
            System.arraycopy(other.draught, 0, draught, 0, draught.length);
            System.arraycopy(other.broad, 0, broad, 0, broad.length);
            System.arraycopy(other.cargo, 0, cargo, 0, cargo.length);
        }

        int add(int pool, int draughtOfIt, int broadOfIt) {
            int boat = count;
            if (boat >= MOST_BOATS) {
                return NONE;
            }
            where[boat] = pool;
            draught[boat] = draughtOfIt;
            broad[boat] = broadOfIt;
            count++;
            return boat;
        }

        boolean has(int boat) {
            return boat >= 0 && boat < count;
        }

        boolean hasAll(int boats) {
            return boats > 0 && boats >> count == 0;
        }

        int cargoOf(int boat, int good) {
            return cargo[boat * GOODS + good];
        }

        static boolean isIn(int boats, int boat) {
            return (boats >> boat & 1) == 1;
        }

        int poolOfFirst(int boats) {
            for (int boat = 0; boat < count; boat++) {
                if (isIn(boats, boat)) {
                    return where[boat];
                }
            }
            return NONE;
        }

        boolean areTogether(int boats) {
            int pool = poolOfFirst(boats);
            for (int boat = 0; boat < count; boat++) {
                if (isIn(boats, boat) && where[boat] != pool) {
                    return false;
                }
            }
            return pool != NONE;
        }

        int broadest(int boats) {
            int most = 0;
            for (int boat = 0; boat < count; boat++) {
                if (isIn(boats, boat)) {
                    most = Math.max(most, broad[boat]);
                }
            }
            return most;
        }

        /** Each call goes on to the next boat, so that it goes at most seven deep. */
        private int fewestPassings(int boats, int first, int wide) {
            if (first >= count) {
                return 0;
            }
            if (!isIn(boats, first)) {
                return fewestPassings(boats, first + 1, wide);
            }
            int fewest = fewestPassings(boats, first + 1, wide);
            for (int mate = first + 1; mate < count; mate++) {
                if (isIn(boats, mate) && broad[first] + broad[mate] <= wide) {
                    fewest = Math.min(fewest, fewestPassings(boats & ~(1 << mate), first + 1, wide));
                }
            }
            return fewest + 1;
        }
    }

    /** The keepers' hearts, by their locks. */
    private static final class Keepers {
        final int[] mood = new int[MOST_LOCKS];
        final int[] rival = new int[MOST_LOCKS];
        final int[] presents = new int[MOST_LOCKS];
        final int[] taste = new int[MOST_LOCKS * GOODS];
        final int[] liking = new int[MOST_LOCKS * MOST_BOATS];

        void begin() {
            Arrays.fill(mood, 0);
            Arrays.fill(rival, NONE);
            Arrays.fill(presents, 0);
            Arrays.fill(taste, 0);
            Arrays.fill(liking, 0);
        }

        void copyFrom(Keepers other) {
            System.arraycopy(other.mood, 0, mood, 0, mood.length);
            System.arraycopy(other.rival, 0, rival, 0, rival.length);
            System.arraycopy(other.presents, 0, presents, 0, presents.length);
            System.arraycopy(other.taste, 0, taste, 0, taste.length);
            System.arraycopy(other.liking, 0, liking, 0, liking.length);
        }

        int tasteFor(int lock, int good) {
            return taste[lock * GOODS + good];
        }

        int likingOf(int lock, int boat) {
            return liking[lock * MOST_BOATS + boat];
        }

        int rivalsLikingOf(int lock, int boat) {
            return rival[lock] == NONE ? 0 : liking[rival[lock] * MOST_BOATS + boat];
        }

        void likeMore(int lock, int boat, int more) {
            liking[lock * MOST_BOATS + boat] = held(likingOf(lock, boat) + more);
        }

        void receive(int lock, int boat, int delight) {
            likeMore(lock, boat, delight);
            mood[lock] = held(mood[lock] + Integer.compare(delight, 0));
            if (delight > 0 && rival[lock] != NONE) {
                likeMore(rival[lock], boat, -(delight / 2));
            }
            presents[lock]++;
        }

        /** Goes from above, so that each hears what the next one thought before the hour. */
        void gossip(int locks, int boats) {
            for (int lock = 0; lock + 1 < locks; lock++) {
                for (int boat = 0; boat < boats; boat++) {
                    likeMore(lock, boat, Integer.compare(likingOf(lock + 1, boat), likingOf(lock, boat)));
                }
            }
        }

        void calmDown(int locks) {
            for (int lock = 0; lock < locks; lock++) {
                mood[lock] -= Integer.compare(mood[lock], 0);
            }
        }

        int favourite(int lock, int boats) {
            int best = NONE;
            for (int boat = 0; boat < boats; boat++) {
                if (best == NONE || likingOf(lock, boat) > likingOf(lock, best)) {
                    best = boat;
                }
            }
            return best;
        }

        int envious(int locks, int boats) {
            int set = 0;
            for (int lock = 0; lock < locks; lock++) {
                int best = favourite(lock, boats);
                if (best == NONE || rival[lock] == NONE) {
                    continue;
                }
                if (likingOf(rival[lock], best) > likingOf(lock, best)) {
                    set |= 1 << lock;
                }
            }
            return set;
        }
    }

    /** The water and all that is on it; a canal without a record is one in thought. */
    private static final class Canal {
        static final int RAIN = 0;
        static final int SHOWER = 1;
        static final int PERIOD = 2;
        static final int SPRING = 3;
        static final int GOSSIP = 4;
        static final int WEATHERS = 5;
        static final int TOO_BROAD = -2;
        static final int NOT_LET = -3;
        static final int TOO_LITTLE = -4;
        static final int TOO_SHALLOW = -5;

        int locks = 1;
        int hour = 0;
        int sea = 0;
        int draws = 0;
        final int[] depth = new int[MOST_POOLS];
        final int[] fill = new int[MOST_LOCKS];
        final int[] leak = new int[MOST_LOCKS];
        final int[] wide = new int[MOST_LOCKS];
        final int[] passes = new int[MOST_LOCKS];
        final int[] weather = new int[WEATHERS];
        final Keepers keepers = new Keepers();
        final Fleet fleet = new Fleet();
        final int[] facts = new int[Law.FACTS];
        final Law gates;
        final Law hearts;
        Book book = null;
        Past past = null;

        Canal(Law gates, Law hearts) {
            this.gates = gates;
            this.hearts = hearts;
        }

        void writeInto(Book ownBook, Past ownPast) {
            book = ownBook;
            past = ownPast;
        }

        void begin(int howMany) {
            locks = howMany;
            hour = 0;
            sea = 0;
            Arrays.fill(depth, 100);
            Arrays.fill(fill, 10);
            Arrays.fill(leak, 0);
            Arrays.fill(wide, 4);
            Arrays.fill(passes, 0);
            Arrays.fill(weather, 0);
            keepers.begin();
            fleet.count = 0;
            Arrays.fill(fleet.cargo, 0);
        }

        void copyFrom(Canal other) {
            locks = other.locks;
            hour = other.hour;
            sea = other.sea;
            draws = other.draws;
            System.arraycopy(other.depth, 0, depth, 0, depth.length);
            System.arraycopy(other.fill, 0, fill, 0, fill.length);
            System.arraycopy(other.leak, 0, leak, 0, leak.length);
            System.arraycopy(other.wide, 0, wide, 0, wide.length);
            System.arraycopy(other.passes, 0, passes, 0, passes.length);
            System.arraycopy(other.weather, 0, weather, 0, weather.length);
            keepers.copyFrom(other.keepers);
            fleet.copyFrom(other.fleet);
        }

        boolean hasLock(int lock) {
            return lock >= 0 && lock < locks;
        }

        boolean hasPool(int pool) {
            return pool >= 0 && pool <= locks;
        }

        int lockOnWay(int pool, boolean up) {
            int lock = up ? pool - 1 : pool;
            return hasLock(lock) ? lock : NONE;
        }

        int allWater() {
            int all = 0;
            for (int pool = 0; pool <= locks; pool++) {
                all += depth[pool];
            }
            return all;
        }

        int passing(int boat, boolean up, int with) {
            int why = refusal(boat, up, with);
            if (why != 0) {
                return why;
            }
            if (past != null) {
                past.keep(this);
            }
            int lock = lockOnWay(fleet.where[boat], up);
            int to = up ? lock : lock + 1;
            flow(lock, fill[lock]);
            fleet.where[boat] = to;
            if (with != NONE) {
                fleet.where[with] = to;
            }
            passes[lock]++;
            note(Book.PASSING, lock, boat, fill[lock]);
            return lock;
        }

        int giving(int boat, int good, int amount, int lock) {
            if (!canGive(boat, good, amount, lock)) {
                return IMPOSSIBLE;
            }
            if (past != null) {
                past.keep(this);
            }
            int delight = delight(boat, good, amount, lock);
            keepers.receive(lock, boat, delight);
            fleet.cargo[boat * GOODS + good] -= amount;
            note(Book.PRESENT, lock, boat, amount);
            return delight;
        }

        int pulling(int lock, int most) {
            if (!hasLock(lock) || !within(most, 1, 9)) {
                return NONE;
            }
            if (past != null) {
                past.keep(this);
            }
            int times = 0;
            while (times < most && depth[lock] >= fill[lock]) {
                flow(lock, fill[lock]);
                times++;
            }
            if (times > 0) {
                note(Book.PULL, lock, NONE, times * fill[lock]);
            }
            return times;
        }

        int waiting(int n) {
            if (!within(n, 1, 100) || hour + n > LAST_HOUR) {
                return NONE;
            }
            int rained = 0;
            for (int i = 0; i < n; i++) {
                if (past != null) {
                    past.keep(this);
                }
                if (oneHour()) {
                    rained++;
                }
            }
            return rained;
        }

        /** Whether it rained. */
        boolean oneHour() {
            boolean rained = rain();
            for (int lock = 0; lock < locks; lock++) {
                flow(lock, Math.min(leak[lock], depth[lock]));
            }
            tide();
            if (weather[GOSSIP] == 1) {
                keepers.gossip(locks, fleet.count);
            }
            keepers.calmDown(locks);
            hour++;
            return rained;
        }

        void flow(int lock, int amount) {
            depth[lock] -= amount;
            comeInto(lock + 1, amount);
        }

        private void comeInto(int first, int amount) {
            int on = amount;
            for (int pool = first; pool <= locks; pool++) {
                int full = depth[pool] + on;
                depth[pool] = Math.min(full, DEEPEST);
                on = full - depth[pool];
            }
            sea += on;
        }

        /** It never rains in thought, nor is there a draw. */
        private boolean rain() {
            if (book == null || weather[RAIN] <= 0) {
                return false;
            }
            draws = draws * 1664525 + 1013904223;
            if ((draws >>> 8) % 1000 >= weather[RAIN]) {
                return false;
            }
            comeInto(0, weather[SHOWER]);
            note(Book.RAINFALL, NONE, NONE, weather[SHOWER]);
            return true;
        }

        private void tide() {
            int period = weather[PERIOD];
            if (period <= 0 || (hour + 1) % period != 0) {
                return;
            }
            sea -= weather[SPRING];
            comeInto(locks, weather[SPRING]);
            note(Book.TIDE, NONE, NONE, weather[SPRING]);
        }

        /** 0, or by what a passing is refused. */
        private int refusal(int boat, boolean up, int with) {
            int lock = fleet.has(boat) ? lockOnWay(fleet.where[boat], up) : NONE;
            if (lock == NONE || !isMate(boat, with)) {
                return NONE;
            }
            boolean two = with != NONE;
            int broad = fleet.broad[boat];
            int draught = fleet.draught[boat];
            if (two) {
                broad += fleet.broad[with];
                draught = Math.max(draught, fleet.draught[with]);
            }
            if (broad > wide[lock]) {
                return TOO_BROAD;
            }
            if (!lets(lock, boat, up, two) || two && !lets(lock, with, up, true)) {
                return NOT_LET;
            }
            if (depth[lock] < fill[lock]) {
                return TOO_LITTLE;
            }
            int then = up ? depth[lock] - fill[lock] : Math.min(depth[lock + 1] + fill[lock], DEEPEST);
            return draught > then ? TOO_SHALLOW : 0;
        }

        private boolean isMate(int boat, int with) {
            if (with == NONE) {
                return true;
            }
            return fleet.has(with) && with != boat && fleet.where[with] == fleet.where[boat];
        }

        private boolean lets(int lock, int boat, boolean up, boolean two) {
            knowKeeper(lock, boat);
            facts[Law.DRAUGHT] = fleet.draught[boat];
            facts[Law.ABOVE] = depth[lock];
            facts[Law.BELOW] = depth[lock + 1];
            facts[Law.UP] = up ? 1 : 0;
            facts[Law.PASSES] = passes[lock];
            facts[Law.TWO] = two ? 1 : 0;
            return gates.answer(facts, 1) != 0;
        }

        private int delight(int boat, int good, int amount, int lock) {
            int taste = keepers.tasteFor(lock, good);
            knowKeeper(lock, boat);
            facts[Law.GOOD] = good;
            facts[Law.AMOUNT] = amount;
            facts[Law.TASTE] = taste;
            facts[Law.PRESENTS] = keepers.presents[lock];
            return held(hearts.answer(facts, taste * amount));
        }

        private void knowKeeper(int lock, int boat) {
            facts[Law.LIKING] = keepers.likingOf(lock, boat);
            facts[Law.MOOD] = keepers.mood[lock];
            facts[Law.RIVAL] = keepers.rivalsLikingOf(lock, boat);
            facts[Law.LOCK] = lock;
            facts[Law.HOUR] = hour;
        }

        private boolean canGive(int boat, int good, int amount, int lock) {
            if (!fleet.has(boat) || !hasLock(lock) || !within(good, 0, GOODS - 1)) {
                return false;
            }
            int pool = fleet.where[boat];
            boolean there = lock == pool || lock + 1 == pool;
            return there && within(amount, 1, 99) && amount <= fleet.cargoOf(boat, good);
        }

        private void note(int sort, int lock, int boat, int amount) {
            if (book != null) {
                book.write(hour, sort, lock, boat, amount);
            }
        }
    }

    /** What was done, line by line. */
    private static final class Book {
        static final int WIDTH = 5;
        static final int PASSING = 0;
        static final int PRESENT = 1;
        static final int PULL = 2;
        static final int RAINFALL = 3;
        static final int TIDE = 4;
        private static final int MOST = 150;

        int count = 0;
        private final int[] entries = new int[MOST * WIDTH];

        void copyFrom(Book other) {
            count = other.count;
            System.arraycopy(other.entries, 0, entries, 0, entries.length);
        }

        int entry(int line, int what) {
            return entries[line * WIDTH + what];
        }

        void write(int hour, int sort, int lock, int boat, int amount) {
            if (count >= MOST) {
                return;
            }
            int at = count * WIDTH;
            entries[at] = hour;
            entries[at + 1] = sort;
            entries[at + 2] = lock;
            entries[at + 3] = boat;
            entries[at + 4] = amount;
            count++;
        }

        int lastInto(int pool, int locks) {
            for (int line = count - 1; line >= 0; line--) {
                if (leadsInto(line, pool, locks)) {
                    return line;
                }
            }
            return NONE;
        }

        private boolean leadsInto(int line, int pool, int locks) {
            switch (entry(line, 1)) {
                case PASSING:
                case PULL: return entry(line, 2) + 1 == pool;
                case RAINFALL: return pool == 0;
                case TIDE: return pool == locks;
                default: return false;
            }
        }
    }

    /** The canal as it was ahead of the latest doings, in a ring. */
    private static final class Past {
        private static final int MOST = 10;

        int count = 0;
        private int next = 0;
        private final Canal[] kept = new Canal[MOST];
        private final int[] lines = new int[MOST];
        private final Book book;

        Past(Whole whole) {
            book = whole.book;
            for (int i = 0; i < MOST; i++) {
                kept[i] = new Canal(whole.gates, whole.hearts);
            }
        }

        void keep(Canal canal) {
            kept[next].copyFrom(canal);
            lines[next] = book.count;
            next = (next + 1) % MOST;
            count = Math.min(count + 1, MOST);
        }

        boolean goBack(Canal canal) {
            if (count <= 0) {
                return false;
            }
            next = (next + MOST - 1) % MOST;
            count--;
            canal.copyFrom(kept[next]);
            book.count = lines[next];
            return true;
        }

        void forget() {
            count = 0;
        }
    }

    /** What was said of the pools, seen of them, and is needed in them. */
    private static final class Hearsay {
        private static final int MOST = 12;

        int count = 0;
        private final int[] ofPool = new int[MOST];
        private final int[] how = new int[MOST];
        private final int[] deep = new int[MOST];
        final int[] seen = new int[MOST_POOLS];
        final int[] need = new int[MOST_POOLS];
        final int[] pulls = new int[MOST_LOCKS];

        void clear() {
            count = 0;
            Arrays.fill(seen, 0);
            Arrays.fill(need, 0);
        }

        void copyFrom(Hearsay other) {
            count = other.count;
            System.arraycopy(other.ofPool, 0, ofPool, 0, ofPool.length);
            System.arraycopy(other.how, 0, how, 0, how.length);
            System.arraycopy(other.deep, 0, deep, 0, deep.length);
            System.arraycopy(other.seen, 0, seen, 0, seen.length);
            System.arraycopy(other.need, 0, need, 0, need.length);
        }

        int add(int pool, int sort, int v) {
            if (count >= MOST) {
                return NONE;
            }
            ofPool[count] = pool;
            how[count] = sort;
            deep[count] = v;
            count++;
            return count;
        }

        /** The least depth that a pool could have, or the greatest. */
        int bound(Canal canal, int pool, boolean least) {
            int all = canal.allWater();
            int lows = 0;
            int highs = 0;
            for (int i = 0; i <= canal.locks; i++) {
                if (lowest(i) > highest(i)) {
                    return NONE;
                }
                lows += lowest(i);
                highs += highest(i);
            }
            if (lows > all || highs < all) {
                return NONE;
            }
            if (least) {
                return Math.max(lowest(pool), all - (highs - highest(pool)));
            }
            return Math.min(highest(pool), all - (lows - lowest(pool)));
        }

        private int lowest(int pool) {
            int low = 0;
            for (int i = 0; i < count; i++) {
                if (ofPool[i] == pool && how[i] == 0) {
                    low = Math.max(low, deep[i]);
                }
            }
            return low;
        }

        private int highest(int pool) {
            int high = DEEPEST;
            for (int i = 0; i < count; i++) {
                if (ofPool[i] == pool && how[i] == 1) {
                    high = Math.min(high, deep[i]);
                }
            }
            return high;
        }

        /** From the last pool upwards: what a lock lets down is wanting in the pool above it. */
        int fewestPulls(Canal canal) {
            int all = 0;
            int taken = 0;
            for (int lock = canal.locks - 1; lock >= 0; lock--) {
                int lack = Math.max(0, need[lock + 1] + taken - canal.depth[lock + 1]);
                int fill = Math.max(1, canal.fill[lock]);
                pulls[lock] = (lack + fill - 1) / fill;
                taken = pulls[lock] * fill;
                all += pulls[lock];
            }
            return canal.depth[0] - taken < need[0] ? NONE : all;
        }
    }

    /** What is tried on copies of the canal, one for each step deeper. */
    private static final class Thought {
        private static final int MOST_PRESENTS = 6;
        private static final int MOST_PULLS = 20;

        int why = 0;
        int most = NONE;
        int pulledLock = NONE;
        int pulledTimes = NONE;
        final int[] given = new int[MOST_LOCKS];
        final int[] best = new int[MOST_BOATS];
        private final int[] tried = new int[MOST_BOATS];
        private final Canal[] levels = new Canal[MOST_POOLS];

        Thought(Whole whole) {
            for (int i = 0; i < MOST_POOLS; i++) {
                levels[i] = new Canal(whole.gates, whole.hearts);
            }
        }

        Canal start(Canal canal) {
            levels[0].copyFrom(canal);
            return levels[0];
        }

        /** Through how many locks a boat gets; why tells by what it is refused then. */
        int goFar(Canal canal, int boat, boolean up) {
            int gone = 0;
            why = canal.passing(boat, up, NONE);
            while (why >= 0 && gone < MOST_LOCKS) {
                gone++;
                why = canal.passing(boat, up, NONE);
            }
            return gone;
        }

        int fewestPresents(Canal canal, int boat, int good, int pool) {
            int there = Math.min(MOST_PRESENTS, canal.fleet.cargoOf(boat, good));
            for (int all = 0; all <= there; all++) {
                start(canal);
                Arrays.fill(given, 0);
                if (pleasesAll(0, boat, good, pool, all)) {
                    return all;
                }
            }
            return NONE;
        }

        /** Whether just so many presents, the least ones first, bring the boat on to the pool. */
        private boolean pleasesAll(int level, int boat, int good, int pool, int left) {
            Canal here = levels[level];
            int from = here.fleet.where[boat];
            if (from == pool) {
                return left == 0;
            }
            boolean up = pool < from;
            int lock = here.lockOnWay(from, up);
            if (lock == NONE || level + 1 >= levels.length) {
                return false;
            }
            Canal then = levels[level + 1];
            for (int amount = 0; amount <= left; amount++) {
                then.copyFrom(here);
                boolean gave = amount == 0 || then.giving(boat, good, amount, lock) != IMPOSSIBLE;
                boolean passed = gave && then.passing(boat, up, NONE) >= 0;
                if (passed && pleasesAll(level + 1, boat, good, pool, left - amount)) {
                    given[lock] = amount;
                    return true;
                }
            }
            return false;
        }

        /** Tries the lesser numbers first, so that of several orders the first one stays. */
        private void tryOrders(int level, int left, boolean up, int gone) {
            if (left == 0 && gone > most) {
                most = gone;
                System.arraycopy(tried, 0, best, 0, best.length);
            }
            if (level >= MOST_BOATS || level + 1 >= levels.length) {
                return;
            }
            for (int boat = 0; boat < MOST_BOATS; boat++) {
                if (!Fleet.isIn(left, boat)) {
                    continue;
                }
                Canal then = levels[level + 1];
                then.copyFrom(levels[level]);
                tried[level] = boat;
                tryOrders(level + 1, left & ~(1 << boat), up, gone + goFar(then, boat, up));
            }
        }

        int findPulls(Canal canal, int[] seen) {
            int ways = 0;
            pulledLock = NONE;
            pulledTimes = NONE;
            for (int lock = 0; lock < canal.locks; lock++) {
                Canal then = start(canal);
                System.arraycopy(seen, 0, then.depth, 0, then.depth.length);
                for (int m = 1; m <= MOST_PULLS && then.depth[lock] >= then.fill[lock]; m++) {
                    then.flow(lock, then.fill[lock]);
                    if (!isAsDeep(then, canal)) {
                        continue;
                    }
                    ways++;
                    if (pulledLock == NONE) {
                        pulledLock = lock;
                        pulledTimes = m;
                    }
                }
            }
            return ways;
        }

        private static boolean isAsDeep(Canal one, Canal other) {
            for (int pool = 0; pool <= other.locks; pool++) {
                if (one.depth[pool] != other.depth[pool]) {
                    return false;
                }
            }
            return true;
        }
    }

    /** The bytes that a text comes from, cut into tokens, and the fault that was found in them. */
    private static final class Tape {
        static final int MOST = 400;
        static final int CANT_STAND = 1;
        static final int WRONG_NUMBER = 2;
        static final int TOO_MANY = 3;

        // A sign's kind is the sign itself; these lie above all signs.
        static final int NUMBER = 256;
        static final int NONSENSE = 257;
        static final int THE_END = 258;
        static final int LET = 300;
        static final int HOLD = 301;
        static final int LIKE = 302;
        static final int WHEN = 303;
        static final int OR = 304;
        static final int AND = 305;
        static final int NOT = 306;
        static final int FIRST_FACT = 307;
        static final int UP = FIRST_FACT + Law.UP;
        static final int PASS = FIRST_FACT + Law.FACTS;
        static final int GIVE = PASS + 1;
        static final int PULL = PASS + 2;
        static final int WAIT = PASS + 3;
        static final int DOWN = PASS + 4;
        static final int WITH = PASS + 5;
        static final int OF = PASS + 6;
        static final int TO = PASS + 7;
        static final int BY = PASS + 8;
        private static final String SIGNS = ";+-*/()<=>";
        // In the order of the kinds above; the facts in the order of the law's.
        private static final String WORDS = "let hold like when or and not liking mood rival lock hour draught above below up passes two good amount taste presents pass give pull wait down with of to by ";

        int length = 0;
        int fault = 0;
        int faultPlace = NONE;
        private final int[] bytes = new int[MOST];
        private final int[] kinds = new int[MOST + 1];
        private final int[] places = new int[MOST + 1];
        private final int[] values = new int[MOST + 1];
        private int count = 0;
        private int at = 0;

        void add(int four) {
            for (int shift = 24; shift >= 0 && length < MOST; shift -= 8) {
                bytes[length] = four >>> shift & 255;
                length++;
            }
        }

        void clearFault() {
            fault = 0;
            faultPlace = NONE;
        }

        void split() {
            count = 0;
            at = 0;
            int i = 0;
            for (int round = 0; round < MOST && i < length; round++) {
                int sign = bytes[i];
                int from = i;
                i++;
                if (isLetter(sign)) {
                    while (i < length && isLetter(bytes[i])) {
                        i++;
                    }
                    addToken(keyword(from, i), from, 0);
                } else if (isDigit(sign)) {
                    while (i < length && isDigit(bytes[i])) {
                        i++;
                    }
                    addToken(i - from <= 4 ? NUMBER : NONSENSE, from, number(from, i));
                } else if (sign != 32 && sign != 10) {
                    addToken(SIGNS.indexOf((char) sign) >= 0 ? sign : NONSENSE, from, 0);
                }
            }
            addToken(THE_END, length, 0);
        }

        /** Behind a fault all is as at the end, so that nothing more is read. */
        int kind() {
            return fault == 0 && at < count ? kinds[at] : THE_END;
        }

        int value() {
            return at < count ? values[at] : 0;
        }

        void step() {
            if (at + 1 < count) {
                at++;
            }
        }

        boolean take(int kind) {
            boolean is = kind() == kind;
            if (is) {
                step();
            }
            return is;
        }

        void expect(int kind) {
            if (!take(kind)) {
                wrong(CANT_STAND);
            }
        }

        int numberWithin(int low, int high) {
            int v = value();
            if (kind() != NUMBER) {
                wrong(CANT_STAND);
            } else if (!within(v, low, high)) {
                wrong(WRONG_NUMBER);
            }
            step();
            return v;
        }

        void wrong(int sort) {
            if (fault == 0 && at < count) {
                fault = sort;
                faultPlace = places[at];
            }
        }

        private void addToken(int kind, int place, int value) {
            if (count < kinds.length) {
                kinds[count] = kind;
                places[count] = place;
                values[count] = value;
                count++;
            }
        }

        /** Of more than four digits the value is not asked for. */
        private int number(int from, int to) {
            int v = 0;
            for (int i = from; i < to; i++) {
                v = v * 10 + bytes[i] - '0';
            }
            return v;
        }

        private int keyword(int from, int to) {
            int kind = LET;
            int same = from;
            for (int i = 0; i < WORDS.length(); i++) {
                char letter = WORDS.charAt(i);
                if (letter == ' ') {
                    if (same == to) {
                        return kind;
                    }
                    kind++;
                    same = from;
                } else if (same != NONE) {
                    same = same < to && bytes[same] == letter ? same + 1 : NONE;
                }
            }
            return NONSENSE;
        }

        private static boolean isLetter(int sign) {
            return within(sign, 'a', 'z') || within(sign, 'A', 'Z');
        }

        private static boolean isDigit(int sign) {
            return within(sign, '0', '9');
        }
    }

    /** A law as code in which what is joined stands ahead of what joins it. */
    private static final class Law {
        static final int LIKING = 0;
        static final int MOOD = 1;
        static final int RIVAL = 2;
        static final int LOCK = 3;
        static final int HOUR = 4;
        static final int DRAUGHT = 5;
        static final int ABOVE = 6;
        static final int BELOW = 7;
        static final int UP = 8;
        static final int PASSES = 9;
        static final int TWO = 10;
        static final int GOOD = 11;
        static final int AMOUNT = 12;
        static final int TASTE = 13;
        static final int PRESENTS = 14;
        static final int FACTS = 15;

        // Numbers are 0 and above, fact f is -1 - f, these lie below all facts.
        private static final int PLUS = -20;
        private static final int MINUS = -21;
        private static final int TIMES = -22;
        private static final int PARTED = -23;
        private static final int LESS = -24;
        private static final int SAME = -25;
        private static final int MORE = -26;
        private static final int BOTH = -27;
        private static final int EITHER = -28;
        private static final int CONTRARY = -29;
        private static final int ANSWER = -30;
        private static final int ANSWER_WHEN = -31;

        private static final int MOST_LINES = 16;
        private static final int MOST_OPEN = 8;
        private static final int STACK = 64;

        int lines = 0;
        private final boolean ofHearts;
        private int length = 0;
        private int[] code = new int[Tape.MOST];
        private int draftLength = 0;
        private int[] draft = new int[Tape.MOST];
        private final int[] stack = new int[STACK];

        Law(boolean ofHearts) {
            this.ofHearts = ofHearts;
        }

        void clear() {
            lines = 0;
            length = 0;
        }

        void copyFrom(Law other) {
            lines = other.lines;
            length = other.length;
            System.arraycopy(other.code, 0, code, 0, code.length);
        }

        /** What the first line that is so answers. */
        int answer(int[] facts, int otherwise) {
            int top = 0;
            for (int i = 0; i < length && top < STACK; i++) {
                int op = code[i];
                if (op >= 0) {
                    stack[top++] = op;
                } else if (op >= -FACTS) {
                    stack[top++] = facts[-1 - op];
                } else if (op == ANSWER && top >= 1) {
                    return stack[top - 1];
                } else if (op == CONTRARY && top >= 1) {
                    stack[top - 1] = 1 - stack[top - 1];
                } else if (op == ANSWER_WHEN && top >= 2) {
                    if (stack[top - 1] != 0) {
                        return stack[top - 2];
                    }
                    top = 0;
                } else if (top >= 2) {
                    top--;
                    stack[top - 1] = joined(op, stack[top - 1], stack[top]);
                }
            }
            return otherwise;
        }

        private static int joined(int op, int left, int right) {
            switch (op) {
                case PLUS: return left + right;
                case MINUS: return left - right;
                case TIMES: return left * right;
                case PARTED: return right == 0 ? 0 : left / right;
                case LESS: return left < right ? 1 : 0;
                case SAME: return left == right ? 1 : 0;
                case MORE: return left > right ? 1 : 0;
                case BOTH: return left & right;
                default: return left | right;
            }
        }

        /** How many lines; NONE with a fault, which the tape then tells, and the law stays. */
        int read(Tape tape) {
            draftLength = 0;
            int read = 0;
            for (int i = 0; i <= MOST_LINES && tape.kind() != Tape.THE_END; i++) {
                readLine(tape, read);
                read++;
            }
            if (tape.fault != 0) {
                return NONE;
            }
            int[] old = code;
            code = draft;
            draft = old;
            length = draftLength;
            lines = read;
            return read;
        }

        private void readLine(Tape tape, int before) {
            int kind = tape.kind();
            boolean begins = ofHearts ? kind == Tape.LIKE : kind == Tape.LET || kind == Tape.HOLD;
            if (!begins || before >= MOST_LINES) {
                tape.wrong(begins ? Tape.TOO_MANY : Tape.CANT_STAND);
                return;
            }
            tape.step();
            if (ofHearts) {
                readSum(tape);
            } else {
                write(kind == Tape.LET ? 1 : 0);
            }
            if (tape.take(Tape.WHEN)) {
                readEither(tape, 0);
                write(ANSWER_WHEN);
            } else {
                write(ANSWER);
            }
            tape.expect(';');
        }

        private void readEither(Tape tape, int open) {
            readBoth(tape, open);
            for (int i = 0; i < Tape.MOST && tape.take(Tape.OR); i++) {
                readBoth(tape, open);
                write(EITHER);
            }
        }

        private void readBoth(Tape tape, int open) {
            readClaim(tape, open);
            for (int i = 0; i < Tape.MOST && tape.take(Tape.AND); i++) {
                readClaim(tape, open);
                write(BOTH);
            }
        }

        private void readClaim(Tape tape, int open) {
            int kind = tape.kind();
            boolean opens = kind == '(' || kind == Tape.NOT;
            if (opens && open >= MOST_OPEN) {
                tape.wrong(Tape.TOO_MANY);
            } else if (kind == Tape.NOT) {
                tape.step();
                readClaim(tape, open + 1);
                write(CONTRARY);
            } else if (kind == '(') {
                tape.step();
                readEither(tape, open + 1);
                tape.expect(')');
            } else {
                readSum(tape);
                int sign = tape.kind();
                boolean compares = tape.take('<') || tape.take('=') || tape.take('>');
                if (!compares) {
                    tape.wrong(Tape.CANT_STAND);
                }
                readSum(tape);
                write(comparison(sign));
            }
        }

        private static int comparison(int sign) {
            if (sign == '=') {
                return SAME;
            }
            return sign == '<' ? LESS : MORE;
        }

        private void readSum(Tape tape) {
            readProduct(tape);
            for (int i = 0; i < Tape.MOST; i++) {
                int kind = tape.kind();
                if (kind != '+' && kind != '-') {
                    return;
                }
                tape.step();
                readProduct(tape);
                write(kind == '+' ? PLUS : MINUS);
            }
        }

        private void readProduct(Tape tape) {
            readUnit(tape);
            for (int i = 0; i < Tape.MOST; i++) {
                int kind = tape.kind();
                if (kind == '*') {
                    tape.step();
                    readUnit(tape);
                    write(TIMES);
                } else if (kind == '/') {
                    tape.step();
                    write(tape.numberWithin(1, 9999));
                    write(PARTED);
                } else {
                    return;
                }
            }
        }

        private void readUnit(Tape tape) {
            int kind = tape.kind();
            int fact = kind - Tape.FIRST_FACT;
            if (kind == Tape.NUMBER) {
                write(tape.value());
            } else if (isFact(fact)) {
                write(-1 - fact);
            } else {
                tape.wrong(Tape.CANT_STAND);
                return;
            }
            tape.step();
        }

        private boolean isFact(int fact) {
            if (fact <= HOUR) {
                return fact >= LIKING;
            }
            return ofHearts ? fact >= GOOD && fact <= PRESENTS : fact <= TWO;
        }

        private void write(int op) {
            if (draftLength < draft.length) {
                draft[draftLength] = op;
                draftLength++;
            }
        }
    }

    /** The plan, a row of numbers for each step. */
    private static final class Plan {
        private static final int MOST = 30;
        private static final int WIDTH = 5;

        int count = 0;
        int why = 0;
        int fills = 0;
        int goods = 0;
        private int[] steps = new int[MOST * WIDTH];
        private int[] draft = new int[MOST * WIDTH];

        void copyFrom(Plan other) {
            count = other.count;
            System.arraycopy(other.steps, 0, steps, 0, steps.length);
        }

        /** How many steps are done; why, fills and goods tell of them too. */
        int carryOut(Canal canal) {
            why = 0;
            fills = 0;
            goods = 0;
            for (int i = 0; i < count; i++) {
                why = carryOutOne(canal, i * WIDTH);
                if (why != 0) {
                    return i;
                }
            }
            return count;
        }

        /** 0, or by what the step is refused. */
        private int carryOutOne(Canal canal, int at) {
            int first = steps[at + 1];
            int second = steps[at + 2];
            int third = steps[at + 3];
            int answer;
            switch (steps[at]) {
                case Tape.PASS:
                    answer = canal.passing(first, second == 1, third);
                    fills += answer < 0 ? 0 : 1;
                    return Math.min(answer, 0);
                case Tape.GIVE:
                    answer = canal.giving(steps[at + 4], second, first, third);
                    goods += answer == IMPOSSIBLE ? 0 : first;
                    return answer == IMPOSSIBLE ? NONE : 0;
                case Tape.PULL:
                    answer = canal.pulling(first, second);
                    fills += Math.max(answer, 0);
                    return Math.min(answer, 0);
                default:
                    return Math.min(canal.waiting(first), 0);
            }
        }

        /** How many steps; NONE with a fault, which the tape then tells, and the plan stays. */
        int read(Tape tape, int locks, int boats) {
            int read = 0;
            for (int i = 0; i <= MOST && tape.kind() != Tape.THE_END; i++) {
                readStep(tape, read, locks, boats);
                read++;
            }
            if (tape.fault != 0) {
                return NONE;
            }
            int[] old = steps;
            steps = draft;
            draft = old;
            count = read;
            return read;
        }

        private void readStep(Tape tape, int before, int locks, int boats) {
            int kind = tape.kind();
            boolean begins = within(kind, Tape.PASS, Tape.WAIT);
            if (!begins || before >= MOST) {
                tape.wrong(begins ? Tape.TOO_MANY : Tape.CANT_STAND);
                return;
            }
            int at = before * WIDTH;
            draft[at] = kind;
            tape.step();
            switch (kind) {
                case Tape.PASS:
                    readPassing(tape, at, boats);
                    break;
                case Tape.GIVE:
                    readGiving(tape, at, locks, boats);
                    break;
                case Tape.PULL:
                    draft[at + 1] = tape.numberWithin(0, locks - 1);
                    draft[at + 2] = tape.numberWithin(1, 9);
                    break;
                default:
                    draft[at + 1] = tape.numberWithin(1, 99);
                    break;
            }
            tape.expect(';');
        }

        private void readPassing(Tape tape, int at, int boats) {
            draft[at + 1] = tape.numberWithin(0, boats - 1);
            boolean up = tape.take(Tape.UP);
            if (!up) {
                tape.expect(Tape.DOWN);
            }
            draft[at + 2] = up ? 1 : 0;
            draft[at + 3] = tape.take(Tape.WITH) ? tape.numberWithin(0, boats - 1) : NONE;
        }

        private void readGiving(Tape tape, int at, int locks, int boats) {
            draft[at + 1] = tape.numberWithin(1, 99);
            tape.expect(Tape.OF);
            draft[at + 2] = tape.numberWithin(0, GOODS - 1);
            tape.expect(Tape.TO);
            draft[at + 3] = tape.numberWithin(0, locks - 1);
            tape.expect(Tape.BY);
            draft[at + 4] = tape.numberWithin(0, boats - 1);
        }
    }
}
