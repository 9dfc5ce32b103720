import java.util.function.IntPredicate;

/** Terms 1, THE CANAL, and the calls that tell it and look at it: each bound just at it and just beyond it. */
public final class CanalBoundsTest {
    private static final int NONE = LockWives.NONE;
    private static final int IMPOSSIBLE = NONE - 999;
    private static final int NO_SUCH_LOOK = NONE - 99999;
    private static final int[] SIZES = {1, 4, 9};

    public static void main(String[] args) {
        drawsWrap();
        drawsAtRain();
        noDrawWithoutRain();
        allAsAtFirst();
        oneToNineLocks();
        refusedCanalDoesNothing();
        toldAnew();
        depths();
        numbersOfLocks();
        rivals();
        tastes();
        likings();
        sixBoats();
        numbersOfBoats();
        cargoes();
        settings();
        refusedTellingChangesNothing();
        spillsOverOnePool();
        spillsOverAllPools();
        spillsOfPassings();
        spillsOfLeaks();
        spillsOfRain();
        spillsOfTides();
        tapeOf400();
        endOfTape();
        firstBytesAlone();
        highestByteFirst();
        looks();
        sights();
        Check.finish("CanalBoundsTest");
    }

    private static LockWives canal(String part, int n) {
        Check.part(part);
        LockWives x = new LockWives();
        Check.due("canal " + n, x.canal(n), true);
        return x;
    }

    private static int drawnAfter(int state) {
        long next = (state * 1664525L + 1013904223L) & 0xffffffffL;
        return (int) ((next >> 8) % 1000);
    }

    private static int stateBefore(int drawn, boolean below0) {
        for (int state = 0; state < 10_000_000; state++) {
            boolean isBelow0 = (int) (state * 1664525L + 1013904223L) < 0;
            if (drawnAfter(state) == drawn && isBelow0 == below0) {
                return state;
            }
        }
        throw new IllegalStateException("no state draws " + drawn);
    }

    // ---- draws

    private static void drawsWrap() {
        LockWives x = canal("2: STATE is an int that wraps", 1);
        Check.due("set", x.set(0, 1000), true);
        int told = 0;
        for (int state : new int[] {1, -1, Integer.MAX_VALUE, Integer.MIN_VALUE, 1290, 1291, 0}) {
            Check.due("state " + state, x.state(state), told);
            Check.due("look(5)", x.look(5), state);
            Check.due("hours", x.hours(1), 1);
            told = (int) (state * 1664525L + 1013904223L);
            Check.due("drawn from " + state, x.look(5), told);
        }
    }

    private static void drawsAtRain() {
        LockWives x = canal("16: rain if a DRAW of 1000 is below RAIN", 1);
        for (boolean below0 : new boolean[] {false, true}) {
            for (int drawn : new int[] {0, 1, 499, 998, 999}) {
                int state = stateBefore(drawn, below0);
                x.state(state);
                x.set(0, drawn + 1);
                Check.due("drawn " + drawn + ", RAIN one above it", x.hours(1), 1);
                x.state(state);
                x.set(0, 1000);
                Check.due("drawn " + drawn + ", RAIN 1000", x.hours(1), 1);
                x.state(state);
                x.set(0, 1);
                Check.due("drawn " + drawn + ", RAIN 1", x.hours(1), drawn == 0 ? 1 : 0);
                if (drawn > 0) {
                    x.state(state);
                    x.set(0, drawn);
                    Check.due("drawn " + drawn + ", RAIN the same", x.hours(1), 0);
                    Check.due("a draw that brings none is one", x.look(5), (int) (state * 1664525L + 1013904223L));
                }
            }
        }
    }

    private static void noDrawWithoutRain() {
        LockWives x = canal("16: no DRAW if RAIN is 0", 1);
        x.state(stateBefore(0, false));
        int state = x.look(5);
        x.set(1, 99);
        Check.due("RAIN 0", x.hours(1), 0);
        Check.due("STATE stays", x.look(5), state);
        Check.due("DEPTH stays", x.depth(0), 100);
        Check.due("no line", x.look(4), 0);
        x.set(0, 1);
        Check.due("RAIN 1", x.hours(1), 1);
        Check.due("DEPTH", x.depth(0), 199);
        Check.due("a line", x.look(4), 1);
    }

    // ---- the canal

    private static void allAsAtFirst() {
        Check.part("1: a new object");
        LockWives x = new LockWives();
        int[] looks = {4, 0, 0, 0, 0, 0, 0, 0, 0, 0, 0, 500};
        for (int what = 0; what < looks.length; what++) {
            Check.due("look " + what, x.look(what), looks[what]);
        }
        for (int what = 20; what < 25; what++) {
            Check.due("look " + what, x.look(what), 0);
        }
        for (int pool = 0; pool <= 4; pool++) {
            Check.due("depth", x.depth(pool), 100);
            Check.due("seen", x.look(30 + pool), 0);
            Check.due("need", x.look(40 + pool), 0);
        }
        int[] lock = {10, 0, 4, 0, NONE, 0, 0, NONE, IMPOSSIBLE, IMPOSSIBLE, 0, 0, 0, 0, IMPOSSIBLE};
        for (int k = 0; k < 4; k++) {
            for (int what = 0; what < lock.length; what++) {
                Check.due("at " + k + " " + what, x.at(k, what), lock[what]);
            }
            Check.due("no boat is liked", x.at(k, 20), IMPOSSIBLE);
        }
        Check.due("no fault", x.fault(0), 0);
        Check.due("no place", x.fault(1), NONE);
        Check.due("nothing to undo", x.undo(), false);
        Check.due("no image", x.image(false), false);
        Check.due("an empty tape", x.end(1), false);
        Check.due("an empty plan", x.run(), 0);
        Check.due("no boat", x.boat(0, 1, 1), 0);
        for (int good = 0; good < 4; good++) {
            Check.due("no cargo", x.of(0, 10 + good), 0);
        }
        for (int k = 0; k < 4; k++) {
            Check.due("no liking", x.at(k, 20), 0);
        }
    }

    private static void oneToNineLocks() {
        for (int n : SIZES) {
            LockWives x = canal("3: n is 1 to 9", n);
            Check.due("n", x.look(0), n);
            Check.due("the last pool", x.depth(n), 100);
            Check.due("no pool beyond", x.depth(n + 1), NONE);
            Check.due("no pool ahead", x.depth(-1), NONE);
            Check.due("the last lock", x.at(n - 1, 0), 10);
            Check.due("no lock beyond", x.at(n, 0), IMPOSSIBLE);
            Check.due("no lock ahead", x.at(-1, 0), IMPOSSIBLE);
            Check.due("all water", x.look(11), 100 * (n + 1));
        }
    }

    private static void refusedCanalDoesNothing() {
        LockWives x = canal("3: false, and nothing is done", 2);
        x.boat(1, 5, 2);
        x.pool(0, 77);
        x.lock(1, 0, 7);
        Check.text(x, 0, "let;");
        x.pull(0, 2);
        x.hours(3);
        int[] before = Check.sight(x);
        Check.beyond("canal", 1, 9, n -> x.canal(n) ? 1 : 0, 0);
        Check.same("canal", x, before);
        Check.due("what can be undone stays", x.look(9), 4);
        Check.due("undo", x.undo(), true);
        Check.due("HOUR", x.look(2), 2);
    }

    private static LockWives sixBoats(String part, int n) {
        LockWives x = canal(part, n);
        for (int boat = 0; boat < 6; boat++) {
            Check.due("boat", x.boat(boat % (n + 1), 1 + boat, 1 + boat), boat);
        }
        return x;
    }

    private static void toldAnew() {
        for (int n : SIZES) {
            int[] fresh = Check.sight(sixBoats("3: told anew all is as at first", n));
            LockWives x = sixBoats("3: told anew all is as at first", n);
            changeAll(x, n);
            for (int boat = 0; boat < 6; boat++) {
                for (int good = 0; good < 4; good++) {
                    x.load(boat, 10 + good, 9);
                }
            }
            Check.due("canal", x.canal(n), true);
            Check.due("nothing to undo", x.undo(), false);
            Check.due("no boats", x.look(1), 0);
            Check.due("no plan", x.planned(0), 0);
            for (int boat = 0; boat < 6; boat++) {
                x.boat(boat % (n + 1), 1 + boat, 1 + boat);
            }
            Check.due("STATE stays", x.state(0), 8);
            Check.due("fault() stays", x.fault(0), 2);
            Check.due("its place stays", x.fault(1), 5);
            Check.due("the TAPE stays", x.end(18), false);
            Check.due("the TAPE stays", x.text(2), 2);
            Check.due("THE IMAGE stays", x.image(false), true);
            Check.due("THE IMAGE has its boats", x.look(1), 6);
            Check.due("THE IMAGE has its locks", x.at(n - 1, 0), 50);
            x.canal(n);
            x.state(0);
            for (int boat = 0; boat < 6; boat++) {
                x.boat(boat % (n + 1), 1 + boat, 1 + boat);
            }
            Check.same("canal", x, fresh);
            x.load(0, 10, 9);
            x.lock(0, 10, 2);
            Check.due("HEARTS have no line", x.give(0, 0, 3, 0), 6);
            Check.due("GATES have no line", x.pass(0, false, NONE), 0);
        }
    }

    /** Of every sort of thing that can be told something else than at first, on the first and the last of each. */
    private static void changeAll(LockWives x, int n) {
        for (int lock = 0; lock < n; lock += Math.max(1, n - 1)) {
            int[][] told = {{0, 50}, {1, 9}, {2, 9}, {3, 9}, {10, 1}, {13, 1}, {20, 1}, {25, 1}};
            for (int[] one : told) {
                Check.due("lock", x.lock(lock, one[0], one[1]), true);
            }
            if (n > 1) {
                Check.due("rival", x.lock(lock, 4, n - 1 - lock), true);
            }
        }
        for (int what = 0; what < 5; what++) {
            Check.due("set", x.set(what, 1), true);
        }
        Check.due("load", x.load(0, 10, 9), true);
        Check.due("load", x.load(0, 2, 1), true);
        Check.due("load", x.load(0, 0, 0), true);
        Check.due("give", x.give(0, 0, 2, 0), 2);
        Check.due("pass", x.pass(0, false, NONE), 0);
        Check.due("pull", x.pull(n - 1, 1), 1);
        for (int pool = 0; pool <= n; pool++) {
            x.pool(pool, 998);
            x.tell(0, pool, 5);
            x.tell(1, pool, 5);
        }
        Check.due("said", x.said(n, 1, 5), 1);
        Check.due("hours", x.hours(3), x.look(4) - 3 - 3);
        Check.due("pull", x.pull(n - 1, 1), 1);
        Check.due("sea", x.look(3) != 0, true);
        Check.due("gates", Check.text(x, 0, "hold;"), 1);
        Check.due("hearts", Check.text(x, 1, "like 5;"), 1);
        Check.due("plan", Check.text(x, 2, "wait 1;"), 1);
        x.state(8);
        x.pull(0, 1);
        Check.due("image", x.image(true), true);
        Check.due("fault", Check.text(x, 2, "wait 0;"), NONE);
        Check.feed(x, "pull 0 1; wait 2;");
    }

    private static void depths() {
        for (int n : SIZES) {
            LockWives x = canal("4: DEPTH of a POOL is 0 to 999", n);
            for (int pool : new int[] {0, n}) {
                Check.bounds("pool " + pool, 0, 999, v -> x.pool(pool, v), () -> x.depth(pool));
            }
            int[] before = Check.sight(x);
            Check.beyond("no pool", 0, n, pool -> x.pool(pool, 5) ? 1 : 0, 0);
            Check.same("no pool", x, before);
        }
    }

    // ---- locks and keepers

    private static void numbersOfLocks() {
        int[][] limits = {{0, 1, 50}, {1, 0, 9}, {2, 1, 9}, {3, -99, 99}};
        for (int n : SIZES) {
            LockWives x = canal("5: FILL 1 to 50, LEAK 0 to 9, WIDE 1 to 9, MOOD -99 to 99", n);
            for (int[] limit : limits) {
                for (int lock = 0; lock < n; lock += Math.max(1, n - 1)) {
                    int k = lock;
                    Check.bounds("lock " + lock + " " + limit[0], limit[1], limit[2], v -> x.lock(k, limit[0], v),
                        () -> x.at(k, limit[0]));
                }
            }
            int[] before = Check.sight(x);
            Check.beyond("no lock", 0, n - 1, lock -> x.lock(lock, 0, 5) ? 1 : 0, 0);
            for (int what : new int[] {-1, 5, 6, 7, 8, 9, 14, 19, 20, 26, 30}) {
                Check.due("what " + what, x.lock(0, what, 1), false);
            }
            for (int what : Check.FAR_OFF) {
                Check.due("what " + what, x.lock(0, what, 1), false);
            }
            Check.same("no lock or another what", x, before);
        }
    }

    private static void rivals() {
        for (int n : SIZES) {
            LockWives x = canal("5: a RIVAL is another LOCK's, or none", n);
            for (int lock = 0; lock < n; lock++) {
                for (int rival = 0; rival < n; rival++) {
                    Check.due("rival", x.lock(lock, 4, rival), rival != lock);
                }
                int last = lock == n - 1 ? n - 2 : n - 1;
                Check.due("rival", x.at(lock, 4), last);
                Check.due("no such lock", x.lock(lock, 4, n), false);
                Check.due("below NONE", x.lock(lock, 4, -2), false);
                Check.due("stays", x.at(lock, 4), last);
                Check.due("none", x.lock(lock, 4, NONE), true);
                Check.due("none", x.at(lock, 4), NONE);
                Check.due("far off", x.lock(lock, 4, Integer.MIN_VALUE), false);
                Check.due("far off", x.lock(lock, 4, Integer.MAX_VALUE), false);
            }
        }
    }

    private static void tastes() {
        LockWives x = canal("5: TASTE for each of GOODS 0 to 3 is -9 to 9", 2);
        for (int good = 0; good < 4; good++) {
            int what = 10 + good;
            for (int lock = 0; lock < 2; lock++) {
                int k = lock;
                Check.bounds("taste", -9, 9, v -> x.lock(k, what, v), () -> x.at(k, what));
            }
            Check.due("its own", x.lock(0, what, good), true);
        }
        for (int good = 0; good < 4; good++) {
            Check.due("its own", x.at(0, 10 + good), good);
            Check.due("not the other's", x.at(1, 10 + good), 9);
        }
        Check.due("GOOD 4", x.lock(1, 14, 1), false);
        Check.due("GOOD 4", x.at(1, 14), IMPOSSIBLE);
        Check.due("GOOD -1", x.lock(1, 9, 1), false);
        Check.due("GOOD -1", x.at(1, 9), IMPOSSIBLE);
    }

    private static void likings() {
        LockWives x = canal("5: LIKING of each BOAT is -99 to 99", 2);
        for (int boat = 0; boat < 6; boat++) {
            int what = 20 + boat;
            Check.due("no such boat yet", x.lock(1, what, 1), false);
            Check.due("no such boat yet", x.at(1, what), IMPOSSIBLE);
            Check.due("boat", x.boat(0, 1, 1), boat);
            Check.due("0 at first", x.at(1, what), 0);
            Check.bounds("liking", -99, 99, v -> x.lock(1, what, v), () -> x.at(1, what));
            Check.due("its own", x.lock(1, what, boat - 3), true);
            Check.due("not the other's", x.at(0, what), 0);
        }
        for (int boat = 0; boat < 6; boat++) {
            Check.due("its own", x.at(1, 20 + boat), boat - 3);
        }
        Check.due("BOAT 6", x.lock(1, 26, 1), false);
        Check.due("BOAT 6", x.at(1, 26), IMPOSSIBLE);
        Check.due("BOAT -1", x.lock(1, 19, 1), false);
        Check.due("BOAT -1", x.at(1, 19), IMPOSSIBLE);
    }

    // ---- boats

    private static void sixBoats() {
        LockWives x = sixBoats("6: NONE if there are six", 3);
        int[] before = Check.sight(x);
        Check.due("the seventh", x.boat(0, 1, 1), NONE);
        Check.same("the seventh", x, before);
        Check.due("no boat 6", x.of(6, 0), NONE);
        Check.due("canal", x.canal(3), true);
        Check.due("the first again", x.boat(0, 1, 1), 0);
    }

    private static void numbersOfBoats() {
        for (int n : SIZES) {
            LockWives x = canal("6: a POOL, DRAUGHT 1 to 99, BROAD 1 to 9", n);
            Check.beyond("pool", 0, n, v -> x.boat(v, 1, 1), NONE);
            Check.beyond("draught", 1, 99, v -> x.boat(0, v, 1), NONE);
            Check.beyond("broad", 1, 9, v -> x.boat(0, 1, v), NONE);
            Check.due("none has come", x.look(1), 0);
            Check.due("the least", x.boat(0, 1, 1), 0);
            Check.due("the greatest", x.boat(n, 99, 9), 1);
            int[][] boats = {{0, 1, 1}, {n, 99, 9}};
            for (int boat = 0; boat < 2; boat++) {
                for (int what = 0; what < 3; what++) {
                    Check.due("of", x.of(boat, what), boats[boat][what]);
                }
            }
            int[][] limits = {{0, 0, n}, {1, 1, 99}, {2, 1, 9}};
            for (int[] limit : limits) {
                Check.bounds("load " + limit[0], limit[1], limit[2], v -> x.load(0, limit[0], v), () -> x.of(0, limit[0]));
                Check.due("the other boat's", x.of(1, limit[0]), boats[1][limit[0]]);
            }
            int[] before = Check.sight(x);
            Check.beyond("no boat", 0, 1, boat -> x.load(boat, 1, 5) ? 1 : 0, 0);
            for (int what : new int[] {-1, 3, 9, 14, 20}) {
                Check.due("what " + what, x.load(0, what, 1), false);
            }
            for (int what : Check.FAR_OFF) {
                Check.due("what " + what, x.load(0, what, 1), false);
            }
            Check.same("no boat or another what", x, before);
        }
    }

    private static void cargoes() {
        LockWives x = canal("7: CARGO of each GOOD is 0 to 99", 1);
        x.boat(0, 1, 1);
        x.boat(0, 1, 1);
        for (int good = 0; good < 4; good++) {
            int what = 10 + good;
            Check.bounds("cargo", 0, 99, v -> x.load(1, what, v), () -> x.of(1, what));
            Check.due("its own", x.load(1, what, 20 + good), true);
        }
        for (int good = 0; good < 4; good++) {
            Check.due("its own", x.of(1, 10 + good), 20 + good);
            Check.due("not the other's", x.of(0, 10 + good), 0);
        }
        Check.due("GOOD 4", x.load(1, 14, 1), false);
        Check.due("GOOD 4", x.of(1, 14), NONE);
        Check.due("GOOD -1", x.load(1, 9, 1), false);
        Check.due("GOOD -1", x.of(1, 9), NONE);
    }

    private static void settings() {
        LockWives x = canal("8: RAIN 0 to 1000, SHOWER, PERIOD, SPRING 0 to 99, GOSSIP 0, 1", 1);
        int[] most = {1000, 99, 99, 99, 1};
        for (int what = 0; what < 5; what++) {
            int w = what;
            Check.bounds("set " + what, 0, most[what], v -> x.set(w, v), () -> x.look(20 + w));
        }
        int[] before = Check.sight(x);
        Check.beyond("what", 0, 4, what -> x.set(what, 1) ? 1 : 0, 0);
        Check.same("another what", x, before);
        for (int what = 0; what < 5; what++) {
            Check.due("each its own", x.look(20 + what), most[what]);
        }
    }

    private static void refusedTellingChangesNothing() {
        LockWives x = canal("35: only what is told forgets, not what is refused", 2);
        x.boat(0, 1, 1);
        x.pull(0, 1);
        int[] before = Check.sight(x);
        IntPredicate[] refused = {
            v -> x.canal(10), v -> x.pool(0, 1000), v -> x.lock(0, 0, 51), v -> x.boat(3, 1, 1) != NONE, v -> x.load(0, 1, 100),
            v -> x.set(4, 2), v -> x.image(false), v -> x.end(1), v -> x.said(0, 0, 1000) != NONE, v -> x.tell(0, 0, 1000)};
        for (int i = 0; i < refused.length; i++) {
            Check.due("refused " + i, refused[i].test(0), false);
            Check.due("can be undone still " + i, x.look(9), 1);
        }
        Check.same("refused", x, before);
        Check.due("undo", x.undo(), true);
        Check.due("DEPTH", x.depth(0), 100);
    }

    // ---- water above 999

    private static void spillsOverOnePool() {
        LockWives x = canal("1: what is above 999 flows on", 2);
        x.pool(1, 989);
        Check.due("pull", x.pull(0, 1), 1);
        Check.due("just 999", x.depth(1), 999);
        Check.due("none flows on", x.depth(2), 100);
        x.pool(1, 990);
        Check.due("pull", x.pull(0, 1), 1);
        Check.due("just 999", x.depth(1), 999);
        Check.due("one flows on", x.depth(2), 101);
        Check.due("none into the SEA", x.look(3), 0);
        x.pool(2, 989);
        Check.due("pull", x.pull(1, 1), 1);
        Check.due("the last one has 999", x.depth(2), 999);
        Check.due("none into the SEA", x.look(3), 0);
        x.pool(2, 990);
        Check.due("pull", x.pull(1, 1), 1);
        Check.due("the last one has 999", x.depth(2), 999);
        Check.due("one into the SEA", x.look(3), 1);
    }

    private static void spillsOverAllPools() {
        for (int n : new int[] {2, 9}) {
            LockWives x = canal("1: likewise, from the last one into the SEA", n);
            x.lock(0, 0, 50);
            for (int pool = 1; pool <= n; pool++) {
                x.pool(pool, 999);
            }
            Check.due("pull", x.pull(0, 1), 1);
            Check.due("all into the SEA", x.look(3), 50);
            x.pool(1, 998);
            x.pool(n, 990);
            Check.due("pull", x.pull(0, 1), 1);
            Check.due("on its way one is kept, then nine", x.look(3), 50 + 50 - 1 - 9);
            for (int pool = 1; pool <= n; pool++) {
                Check.due("full", x.depth(pool), 999);
            }
            Check.due("above", x.depth(0), 0);
        }
    }

    private static void spillsOfPassings() {
        LockWives x = canal("13: FILL flows, what is above 999 on", 2);
        x.boat(0, 1, 1);
        x.pool(1, 989);
        Check.due("down", x.pass(0, false, NONE), 0);
        Check.due("just 999", x.depth(1), 999);
        Check.due("none flows on", x.depth(2), 100);
        x.pool(1, 990);
        Check.due("up", x.pass(0, true, NONE), 0);
        Check.due("just 999", x.depth(1), 999);
        Check.due("one flows on", x.depth(2), 101);
        Check.due("above", x.depth(0), 80);
    }

    private static void spillsOfLeaks() {
        LockWives x = canal("16: LEAKS flow, what is above 999 on", 2);
        x.lock(0, 1, 9);
        x.pool(1, 990);
        x.hours(1);
        Check.due("just 999", x.depth(1), 999);
        Check.due("none flows on", x.depth(2), 100);
        x.pool(1, 991);
        x.hours(1);
        Check.due("just 999", x.depth(1), 999);
        Check.due("one flows on", x.depth(2), 101);
        x.pool(1, 999);
        x.pool(2, 991);
        x.hours(1);
        Check.due("full", x.depth(2), 999);
        Check.due("one into the SEA", x.look(3), 1);
        // lock 0 first: what it lets spill is not what lock 1 makes room for
        x.lock(1, 1, 9);
        x.pool(2, 0);
        x.hours(1);
        Check.due("lock 0 leaks first", x.depth(1), 990);
        Check.due("lock 1 leaks then", x.depth(2), 18);
    }

    private static void spillsOfRain() {
        LockWives x = canal("16: SHOWER comes into POOL 0, what is above 999 flows on", 1);
        x.set(0, 1000);
        x.set(1, 99);
        x.pool(0, 900);
        Check.due("rain", x.hours(1), 1);
        Check.due("just 999", x.depth(0), 999);
        Check.due("none flows on", x.depth(1), 100);
        x.pool(0, 901);
        Check.due("rain", x.hours(1), 1);
        Check.due("just 999", x.depth(0), 999);
        Check.due("one flows on", x.depth(1), 101);
        x.pool(1, 998);
        Check.due("rain", x.hours(1), 1);
        Check.due("into the SEA", x.look(3), 98);
        Check.due("the line has all of it", x.book(2, 4), 99);
        Check.due("all water", x.look(11), 1998);
    }

    private static void spillsOfTides() {
        LockWives x = canal("16: SPRING comes from the SEA, what is above 999 flows back", 2);
        x.set(2, 1);
        x.set(3, 99);
        x.pool(2, 900);
        x.hours(1);
        Check.due("just 999", x.depth(2), 999);
        Check.due("all from the SEA", x.look(3), -99);
        x.pool(2, 901);
        x.hours(1);
        Check.due("just 999", x.depth(2), 999);
        Check.due("one flows back", x.look(3), -99 - 98);
        x.hours(1);
        Check.due("just 999", x.depth(2), 999);
        Check.due("all flows back", x.look(3), -99 - 98);
        Check.due("the line has all of it", x.book(2, 4), 99);
        Check.due("not into the pool above", x.depth(1), 100);
    }

    // ---- the tape

    private static void tapeOf400() {
        LockWives x = canal("9: NONE, and nothing comes, if there would be more than 400", 1);
        for (int i = 1; i <= 20; i++) {
            Check.due("feed", x.feed(0x20202020, 0x20202020, 0x20202020, 0x20202020, 0x20202020), 20 * i);
        }
        Check.due("420", x.feed(0x21212121, 0, 0, 0, 0), NONE);
        Check.due("401 are not there", x.end(401), false);
        Check.due("400 are there", x.end(400), true);
        Check.due("nothing came", x.text(0), 0);
        Check.due("a blank text has no fault", x.fault(0), 0);
        for (int length : new int[] {379, 380, 381}) {
            for (int i = 1; i <= 20; i++) {
                x.feed(0x20202020, 0x20202020, 0x20202020, 0x20202020, 0x20202020);
            }
            Check.due("end", x.end(length), true);
            Check.due("feed behind " + length, x.feed(0, 0, 0, 0, 0), length > 380 ? NONE : length + 20);
            Check.due("so many are there", x.end(length > 380 ? 382 : length + 21), false);
            Check.due("so many are there", x.end(length > 380 ? 381 : length + 20), true);
            Check.due("end", x.end(0), true);
        }
    }

    private static void endOfTape() {
        LockWives x = canal("10: false, changing nothing, if it has not so many, or n is below 0", 1);
        Check.due("an empty one", x.end(0), true);
        Check.due("an empty one", x.end(1), false);
        Check.due("feed", x.feed(0x6c65743b, 0x20202020, 0x20202020, 0x20202020, 0x2020203b), 20);
        Check.beyond("end", 0, 20, n -> x.end(n) ? 1 : 0, 0);
        Check.due("all are there", x.end(20), true);
        Check.due("nothing changed", x.end(20), true);
        Check.due("one less", x.end(19), true);
        Check.due("not more again", x.end(20), false);
        Check.due("the first ones", x.text(0), 1);
        Check.due("feed", x.feed(0x6c65743b, 0x20202020, 0x20202020, 0x20202020, 0x2020203b), 20);
        Check.due("with the last one", x.text(0), NONE);
        Check.due("its place", x.fault(1), 19);
        Check.due("feed", x.feed(0x6c65743b, 0x21212121, 0, 0, 0), 20);
        Check.due("four", x.end(4), true);
        Check.due("behind the four", x.feed(0x6c65743b, 0x6c65743b, 0x6c65743b, 0x6c65743b, 0x20686f6c), 24);
        Check.due("end", x.end(20), true);
        Check.due("five lines", x.text(0), 5);
    }

    /** What is cut off stands no longer behind what is left, be it a word, a number or a blank. */
    private static void firstBytesAlone() {
        LockWives x = canal("10: The TAPE has its first n bytes alone", 1);
        x.feed(0x6c696b65, 0x20313233, 0x34353b20, 0x20202020, 0x20202020);
        x.end(9);
        Check.due("like 1234 of like 12345;", x.text(1), NONE);
        Check.due("no word is wrong", x.fault(0), 1);
        Check.due("but the end", x.fault(1), 9);
        x.feed(0x6c696b65, 0x206d6f6f, 0x64793b20, 0x20202020, 0x20202020);
        x.end(9);
        Check.due("like mood of like moody;", x.text(1), NONE);
        Check.due("but the end", x.fault(1), 9);
        x.feed(0x6c696b65, 0x206d6f6f, 0x643b2020, 0x20202020, 0x20202020);
        x.end(8);
        Check.due("like moo of like mood;", x.text(1), NONE);
        Check.due("the word", x.fault(1), 5);
        x.feed(0x6c696b65, 0x20313233, 0x34353b20, 0x20202020, 0x20202020);
        x.end(9);
        x.feed(0x3b202020, 0x20202020, 0x20202020, 0x20202020, 0x20202020);
        Check.due("like 1234;", x.text(1), 1);
    }

    private static void highestByteFirst() {
        LockWives x = canal("9: of each number the highest byte first", 1);
        Check.due("feed", x.feed(0x686f6c64, 0x20776865, 0x6e20313d, 0x31202020, 0x2020203b), 20);
        Check.due("hold when 1=1 ;", x.text(0), 1);
        x.boat(0, 1, 1);
        Check.due("held", x.pass(0, false, NONE), -3);
        for (int i = 0; i < 5; i++) {
            int[] four = {0x20202020, 0x20202020, 0x20202020, 0x20202020, 0x20202020};
            four[i] = 0x20fe2020;
            Check.due("feed", x.feed(four[0], four[1], four[2], four[3], four[4]), 20);
            Check.due("a byte above 127", x.text(0), NONE);
            Check.due("its place", x.fault(1), 4 * i + 1);
            four[i] = 0xff202020;
            Check.due("feed", x.feed(four[0], four[1], four[2], four[3], four[4]), 20);
            Check.due("a number below 0", x.text(0), NONE);
            Check.due("its place", x.fault(1), 4 * i);
            four[i] = 0x20202021;
            Check.due("feed", x.feed(four[0], four[1], four[2], four[3], four[4]), 20);
            Check.due("the lowest byte", x.text(0), NONE);
            Check.due("its place", x.fault(1), 4 * i + 3);
        }
    }

    // ---- looking

    private static void looks() {
        for (int n : SIZES) {
            LockWives x = canal("37: NONE - 99999 for another what", n);
            for (int pool = 0; pool <= n; pool++) {
                x.tell(0, pool, 100 + pool);
                x.tell(1, pool, 200 + pool);
            }
            for (int what = -2; what <= 60; what++) {
                boolean is = what >= 0 && what <= 11 || what >= 20 && what <= 24
                    || what >= 30 && what <= 30 + n || what >= 40 && what <= 40 + n;
                Check.due("look " + what, x.look(what) != NO_SUCH_LOOK, is);
            }
            Check.beyond("look", 0, 49, x::look, NO_SUCH_LOOK);
            for (int pool = 0; pool <= n; pool++) {
                Check.due("seen", x.look(30 + pool), 100 + pool);
                Check.due("need", x.look(40 + pool), 200 + pool);
            }
        }
    }

    private static void sights() {
        for (int n : SIZES) {
            LockWives x = canal("18 to 21: what there is not", n);
            Check.beyond("depth", 0, n, x::depth, NONE);
            Check.beyond("at", 0, n - 1, lock -> x.at(lock, 0), IMPOSSIBLE);
            Check.beyond("of, no boats", 0, -1, boat -> x.of(boat, 0), NONE);
            Check.beyond("book, no lines", 0, -1, line -> x.book(line, 0), NONE);
            x.boat(0, 1, 1);
            x.pull(0, 1);
            Check.beyond("of, one boat", 0, 0, boat -> x.of(boat, 0), NONE);
            Check.beyond("book, one line", 0, 0, line -> x.book(line, 0), NONE);
            Check.beyond("book", 0, 4, what -> x.book(0, what), NONE);
            Check.due("book", x.book(0, 0), 0);
            Check.due("book", x.book(0, 4), 10);
            Check.beyond("of", 0, 13, what -> x.of(0, what), NONE);
            Check.beyond("at", 0, 20, what -> x.at(0, what), IMPOSSIBLE);
            for (int what : new int[] {8, 9, 14, 19}) {
                Check.due("at " + what, x.at(0, what), IMPOSSIBLE);
            }
            for (int what : new int[] {3, 9}) {
                Check.due("of " + what, x.of(0, what), NONE);
            }
        }
    }
}
