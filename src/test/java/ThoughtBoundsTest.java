/** Terms 4, IN THOUGHT, but what looks or goes back: each bound just at it and just beyond it. */
public final class ThoughtBoundsTest {
    private static final int NONE = LockWives.NONE;
    private static final int IMPOSSIBLE = NONE - 999;
    private static final int[] SIZES = {1, 4, 9};

    public static void main(String[] args) {
        farToBothEnds();
        farRefusals();
        farWhats();
        farOnWhatItBrings();
        pleaseAtItsOwnPool();
        pleaseSixAtMost();
        pleaseAsFarAsThereIsCargo();
        pleaseCantBe();
        pleaseBothWays();
        pleaseTheFirstWay();
        pleaseAheadOfEachPassing();
        pleaseWhats();
        twelveSayings();
        everySayingCounts();
        boundsOfSayings();
        rangeOfAllWater();
        rangeCantBe();
        rangeBoundsOfPools();
        seenAndNeed();
        pulledOneToTwenty();
        pulledWithFillThere();
        pulledSpilling();
        pulledWhats();
        mendJustEnough();
        mendAllFromAbove();
        mendCantBe();
        mendBeyond999();
        mendWhats();
        orderOfOneToFive();
        orderFirstOfSeveral();
        orderWhats();
        shareBreadth();
        shareByTwo();
        shareCantBe();
        laterHours();
        laterWhats();
        laterWithoutRain();
        laterBeyondTheLastHour();
        favourites();
        envies();
        nothingStays();
        Check.finish("ThoughtBoundsTest");
    }

    private static LockWives canal(String part, int n) {
        Check.part(part);
        LockWives x = new LockWives();
        Check.due("canal", x.canal(n), true);
        return x;
    }

    // ---- FAR

    private static void farToBothEnds() {
        for (int n : SIZES) {
            LockWives x = canal("22: through how many LOCKS it gets, NONE at the end of THE CANAL", n);
            x.boat(0, 1, 1);
            for (int pool = 0; pool <= n; pool++) {
                x.load(0, 0, pool);
                Check.due("down from " + pool, x.far(0, false, 0), n - pool);
                Check.due("the end", x.far(0, false, 1), NONE);
                Check.due("up from " + pool, x.far(0, true, 0), pool);
                Check.due("the end", x.far(0, true, 1), NONE);
            }
        }
    }

    private static void farRefusals() {
        LockWives x = canal("22: by what it is refused then, -2 to -5", 4);
        x.boat(0, 50, 3);
        for (int lock = 0; lock < 4; lock++) {
            for (int other = 0; other < 4; other++) {
                x.lock(other, 2, 3);
                x.lock(other, 0, 10);
                x.lock(other, 20, 1);
                x.pool(other + 1, 100);
            }
            x.lock(lock, 2, 2);
            Check.due("too broad for lock " + lock, x.far(0, false, 0), lock);
            Check.due("too broad for lock " + lock, x.far(0, false, 1), -2);
            x.lock(lock, 2, 3);
            x.lock(lock, 20, 0);
            Check.text(x, 0, "hold when liking<1;");
            Check.due("held at lock " + lock, x.far(0, false, 0), lock);
            Check.due("held at lock " + lock, x.far(0, false, 1), -3);
            Check.text(x, 0, "");
            x.pool(0, 999);
            x.pool(lock + 1, 39);
            Check.due("too shallow behind lock " + lock, x.far(0, false, 0), lock);
            Check.due("too shallow behind lock " + lock, x.far(0, false, 1), -5);
            x.pool(lock + 1, 40);
            Check.due("just deep enough behind lock " + lock, x.far(0, false, 0), 4);
            x.pool(0, 100);
            x.pool(lock + 1, 100);
            x.lock(lock, 0, 50);
            x.pool(lock, lock == 0 ? 49 : 39);
            x.load(0, 1, 1);
            Check.due("too little above lock " + lock, x.far(0, false, 0), lock);
            Check.due("too little above lock " + lock, x.far(0, false, 1), -4);
            x.pool(lock, lock == 0 ? 50 : 40);
            Check.due("just enough above lock " + lock, x.far(0, false, 0), 4);
            x.pool(lock, 100);
            x.load(0, 1, 50);
        }
    }

    private static void farWhats() {
        LockWives x = canal("22: NONE - 999 if one can't be, or another what", 1);
        Check.due("no boats", x.far(0, true, 0), IMPOSSIBLE);
        x.boat(0, 1, 1);
        Check.beyond("boat", 0, 0, boat -> x.far(boat, false, 0), IMPOSSIBLE);
        Check.beyond("boat", 0, 0, boat -> x.far(boat, true, 1), IMPOSSIBLE);
        Check.beyond("what", 0, 1, what -> x.far(0, false, what), IMPOSSIBLE);
        for (int boat = 1; boat < 6; boat++) {
            x.boat(0, 1, 1);
        }
        Check.beyond("boat", 0, 5, boat -> x.far(boat, false, 0), IMPOSSIBLE);
        Check.due("the last boat", x.far(5, false, 0), 1);
    }

    private static void farOnWhatItBrings() {
        LockWives x = canal("22: one after another, each PASSING as told", 2);
        x.boat(0, 1, 1);
        x.pool(1, 0);
        Check.due("the FILL it comes with lets it on", x.far(0, false, 0), 2);
        x.lock(1, 0, 11);
        Check.due("one too little", x.far(0, false, 0), 1);
        Check.due("one too little", x.far(0, false, 1), -4);
        x.pool(1, 1);
        Check.due("just enough", x.far(0, false, 0), 2);
        Check.text(x, 0, "hold when passes>0;");
        x.load(0, 0, 1);
        Check.due("PASSES of each LOCK", x.far(0, true, 0), 1);
        x.pass(0, true, NONE);
        Check.due("one too many", x.far(0, false, 1), -3);
    }

    // ---- PLEASE

    private static LockWives pleased(String part, int n, int needed) {
        LockWives x = canal(part, n);
        x.boat(0, 1, 1);
        x.load(0, 10, 99);
        Check.text(x, 0, "hold when liking<" + needed + ";");
        Check.text(x, 1, "like amount;");
        return x;
    }

    private static void pleaseAtItsOwnPool() {
        for (int n : SIZES) {
            LockWives x = pleased("23: to its own POOL it gives none", n, 99);
            for (int pool = 0; pool <= n; pool++) {
                x.load(0, 0, pool);
                Check.due("in all", x.please(0, 0, pool, 0), 0);
                for (int lock = 0; lock < n; lock++) {
                    Check.due("to lock " + lock, x.please(0, 0, pool, 10 + lock), 0);
                }
            }
        }
    }

    private static void pleaseSixAtMost() {
        for (int needed = 0; needed <= 8; needed++) {
            LockWives x = pleased("23: 6 at most", 1, needed);
            int want = needed > 6 ? NONE : needed;
            Check.due("in all " + needed, x.please(0, 0, 1, 0), want);
            Check.due("to lock 0", x.please(0, 0, 1, 10), want);
        }
        for (int n = 1; n <= 9; n++) {
            LockWives x = pleased("23: 6 at most in all", n, 1);
            Check.due("one each, " + n, x.please(0, 0, n, 0), n > 6 ? NONE : n);
            for (int lock = 0; lock < n; lock++) {
                Check.due("to lock " + lock, x.please(0, 0, n, 10 + lock), n > 6 ? NONE : 1);
            }
            Check.due("only six far", x.please(0, 0, Math.min(n, 6), 0), Math.min(n, 6));
        }
    }

    private static void pleaseAsFarAsThereIsCargo() {
        for (int needed = 0; needed <= 6; needed++) {
            for (int good = 0; good < 4; good++) {
                LockWives x = pleased("23: as far as there is CARGO", 1, needed);
                x.load(0, 10, good == 0 ? 0 : 99);
                x.load(0, 10 + good, needed);
                Check.due("just so much", x.please(0, good, 1, 0), needed);
                if (needed > 0) {
                    x.load(0, 10 + good, needed - 1);
                    Check.due("one too little", x.please(0, good, 1, 0), NONE);
                    Check.due("one too little", x.please(0, good, 1, 10), NONE);
                }
            }
        }
    }

    private static void pleaseCantBe() {
        LockWives x = canal("23: NONE if it can't be so", 2);
        x.boat(0, 50, 2);
        x.load(0, 10, 9);
        Check.due("free", x.please(0, 0, 2, 0), 0);
        x.lock(1, 2, 1);
        Check.due("-2", x.please(0, 0, 2, 0), NONE);
        Check.due("-2", x.please(0, 0, 2, 10), NONE);
        Check.due("not on its way", x.please(0, 0, 1, 0), 0);
        x.lock(1, 2, 2);
        Check.due("just broad enough", x.please(0, 0, 2, 0), 0);
        x.lock(1, 0, 50);
        x.pool(1, 39);
        x.pool(0, 100);
        Check.due("-5 or -4", x.please(0, 0, 2, 0), NONE);
        x.pool(1, 40);
        Check.due("just enough", x.please(0, 0, 2, 0), 0);
        x.pool(2, 0);
        Check.due("just deep enough", x.please(0, 0, 2, 0), 0);
        x.load(0, 1, 51);
        x.pool(1, 41);
        Check.due("too shallow", x.please(0, 0, 2, 0), NONE);
        x.load(0, 1, 50);
        Check.text(x, 0, "hold;");
        Check.due("-3 whatever she gets", x.please(0, 0, 2, 0), NONE);
        // who does not like it is not pleased by more of it
        Check.text(x, 0, "hold when liking<1;");
        x.lock(0, 10, -1);
        x.lock(1, 20, 9);
        Check.due("it does not please", x.please(0, 0, 2, 0), NONE);
        x.lock(0, 10, 1);
        Check.due("it pleases", x.please(0, 0, 2, 0), 1);
        Check.due("lock 0", x.please(0, 0, 2, 10), 1);
        Check.due("lock 1", x.please(0, 0, 2, 11), 0);
    }

    private static void pleaseBothWays() {
        LockWives x = pleased("23: on its way, up or down", 4, 2);
        x.load(0, 0, 2);
        for (int pool = 0; pool <= 4; pool++) {
            int locks = Math.abs(pool - 2);
            Check.due("to pool " + pool, x.please(0, 0, pool, 0), 2 * locks);
            for (int lock = 0; lock < 4; lock++) {
                boolean onWay = lock >= Math.min(pool, 2) && lock < Math.max(pool, 2);
                Check.due("to lock " + lock, x.please(0, 0, pool, 10 + lock), onWay ? 2 : 0);
            }
        }
    }

    private static void pleaseTheFirstWay() {
        LockWives x = canal("23: of several ways the first, LOCK by LOCK on the way, the lesser amount", 3);
        x.boat(0, 1, 1);
        x.load(0, 10, 9);
        // one lets it if three were given to anyone on the way
        x.lock(0, 4, 2);
        x.lock(1, 4, 2);
        Check.text(x, 0, "hold when lock=2 and mood<1 and rival=0 and liking>0-3;");
        Check.text(x, 1, "like 2*amount;");
        Check.due("down", x.please(0, 0, 3, 0), 1);
        Check.due("lock 0", x.please(0, 0, 3, 10), 0);
        Check.due("lock 1", x.please(0, 0, 3, 11), 0);
        Check.due("lock 2", x.please(0, 0, 3, 12), 1);
        Check.text(x, 0, "hold when lock=2 and liking>0-3;");
        Check.due("down", x.please(0, 0, 3, 0), 3);
        Check.due("lock 0", x.please(0, 0, 3, 10), 0);
        Check.due("lock 1", x.please(0, 0, 3, 11), 3);
        Check.due("lock 2", x.please(0, 0, 3, 12), 0);
        x.lock(0, 4, NONE);
        x.lock(1, 4, 0);
        x.lock(2, 4, 0);
        x.load(0, 0, 3);
        Check.text(x, 0, "hold when lock=0 and liking>0-3;");
        Check.due("up", x.please(0, 0, 0, 0), 3);
        Check.due("lock 2, the first on this way", x.please(0, 0, 0, 12), 0);
        Check.due("lock 1", x.please(0, 0, 0, 11), 3);
        Check.due("lock 0", x.please(0, 0, 0, 10), 0);
        // when the last one must have one herself the first lesser amount stays 0
        Check.text(x, 0, "hold when lock=0 and (liking>0-3 or mood<1);");
        Check.text(x, 1, "like 1 when lock=0;like 4*amount;");
        Check.due("up", x.please(0, 0, 0, 0), 3);
        Check.due("lock 2", x.please(0, 0, 0, 12), 0);
        Check.due("lock 1", x.please(0, 0, 0, 11), 2);
        Check.due("lock 0", x.please(0, 0, 0, 10), 1);
    }

    private static void pleaseAheadOfEachPassing() {
        LockWives x = canal("23: ahead of each PASSING, so much in one PRESENT", 2);
        x.boat(0, 1, 1);
        x.load(0, 10, 9);
        // she wants what was given in one present, and just so much
        Check.text(x, 0, "hold when lock=1 and not liking=3;");
        Check.text(x, 1, "like 3 when amount=3;like 0-1;");
        Check.due("in all", x.please(0, 0, 2, 0), 3);
        Check.due("lock 0", x.please(0, 0, 2, 10), 0);
        Check.due("lock 1", x.please(0, 0, 2, 11), 3);
        // presents are done: PRESENTS and MOOD are seen at the next LOCK
        Check.text(x, 0, "hold when lock=0 and mood<1;");
        Check.text(x, 1, "like amount when presents=0;");
        Check.due("in all", x.please(0, 0, 2, 0), 1);
        x.lock(0, 3, -1);
        Check.due("once is too little", x.please(0, 0, 2, 0), NONE);
        x.lock(0, 3, 1);
        Check.due("none is needed", x.please(0, 0, 2, 0), 0);
    }

    private static void pleaseWhats() {
        for (int n : SIZES) {
            LockWives x = pleased("23: NONE if one can't be, or another what", n, 0);
            Check.beyond("boat", 0, 0, boat -> x.please(boat, 0, 0, 0), NONE);
            Check.beyond("good", 0, 3, good -> x.please(0, good, 0, 0), NONE);
            Check.beyond("pool", 0, n, pool -> x.please(0, 0, pool, 0), NONE);
            Check.beyond("what", 0, 9 + n, what -> x.please(0, 0, n, what), NONE);
            for (int what : new int[] {1, 2, 9}) {
                Check.due("what " + what, x.please(0, 0, n, what), NONE);
            }
            Check.due("all of them", x.please(0, 3, n, 9 + n), 0);
        }
        LockWives x = canal("23: no boats", 1);
        Check.due("no boats", x.please(0, 0, 0, 0), NONE);
    }

    // ---- SAID, RANGE

    private static void twelveSayings() {
        LockWives x = canal("24: how many there are; NONE if there are twelve", 1);
        for (int i = 1; i <= 12; i++) {
            Check.due("said", x.said(0, 0, i), i);
            Check.due("look(10)", x.look(10), i);
        }
        Check.due("the thirteenth", x.said(0, 0, 13), NONE);
        Check.due("look(10)", x.look(10), 12);
        Check.due("it is not said", x.range(0, 0), 12);
        Check.due("all is forgotten", x.said(NONE, 0, 0), 0);
        Check.due("look(10)", x.look(10), 0);
        Check.due("all is forgotten", x.range(0, 0), 0);
        Check.due("the first again", x.said(0, 1, 50), 1);
        Check.due("those of before are gone", x.range(0, 0), 0);
        Check.due("the new one", x.range(0, 1), 50);
        Check.due("forgotten with another how", x.said(NONE, 2, 1000), 0);
        Check.due("none is forgotten as well", x.said(NONE, 0, 0), 0);
    }

    private static void everySayingCounts() {
        for (int i = 0; i < 12; i++) {
            LockWives x = canal("25: all that was SAID is so", 1);
            for (int j = 0; j < 12; j++) {
                x.said(j % 2, j == i ? 0 : j % 3 == 0 ? 1 : 0, j == i ? 120 : j % 3 == 0 ? 999 : 0);
            }
            Check.due("saying " + i + ", least", x.range(i % 2, 0), 120);
            Check.due("saying " + i + ", the other's greatest", x.range(1 - i % 2, 1), 80);
        }
    }

    private static void boundsOfSayings() {
        for (int n : SIZES) {
            LockWives x = canal("24: NONE if one can't be", n);
            Check.beyond("pool", -1, n, pool -> x.said(pool, 0, 0), NONE);
            Check.beyond("how", 0, 1, how -> x.said(0, how, 0), NONE);
            Check.beyond("v", 0, 999, v -> x.said(n, 0, v), NONE);
            Check.beyond("v", 0, 999, v -> x.said(n, 1, v), NONE);
            Check.due("none was said", x.look(10), 0);
            Check.due("the least", x.said(0, 0, 0), 1);
            Check.due("the greatest", x.said(n, 1, 999), 2);
            Check.due("at least 999", x.said(n, 0, 999), 3);
            Check.due("at most 0", x.said(0, 1, 0), 4);
        }
    }

    private static void rangeOfAllWater() {
        for (int n : SIZES) {
            LockWives x = canal("25: all POOLS together have what they have now, each 0 to 999", n);
            int all = 100 * (n + 1);
            for (int pool = 0; pool <= n; pool++) {
                Check.due("least", x.range(pool, 0), Math.max(0, all - 999 * n));
                Check.due("greatest", x.range(pool, 1), Math.min(999, all));
            }
            for (int pool = 0; pool <= n; pool++) {
                x.pool(pool, 0);
            }
            Check.due("none", x.range(n, 1), 0);
            x.pool(0, 998);
            Check.due("greatest", x.range(n, 1), 998);
            x.pool(0, 999);
            Check.due("greatest", x.range(n, 1), 999);
            x.pool(n, 1);
            Check.due("no more than 999", x.range(n, 1), 999);
            for (int pool = 0; pool <= n; pool++) {
                x.pool(pool, 999);
            }
            Check.due("all full", x.range(n, 0), 999);
            x.pool(0, 998);
            Check.due("one is wanting", x.range(n, 0), 998);
            Check.due("one is wanting", x.range(n, 1), 999);
        }
    }

    private static void rangeCantBe() {
        LockWives x = canal("25: NONE if that can't be", 2);
        x.said(0, 0, 50);
        x.said(0, 1, 50);
        Check.due("just one way", x.range(0, 0), 50);
        Check.due("just one way", x.range(0, 1), 50);
        x.said(0, 1, 49);
        for (int pool = 0; pool <= 2; pool++) {
            Check.due("at odds", x.range(pool, 0), NONE);
            Check.due("at odds", x.range(pool, 1), NONE);
        }
        x.said(NONE, 0, 0);
        x.said(0, 0, 100);
        x.said(1, 0, 150);
        x.said(2, 0, 50);
        Check.due("just all the water", x.range(1, 0), 150);
        Check.due("just all the water", x.range(1, 1), 150);
        x.pool(0, 99);
        Check.due("one too little", x.range(1, 0), NONE);
        Check.due("one too little", x.range(1, 1), NONE);
        x.pool(0, 101);
        Check.due("one more", x.range(1, 1), 151);
        x.said(NONE, 0, 0);
        x.pool(0, 100);
        x.said(0, 1, 100);
        x.said(1, 1, 150);
        x.said(2, 1, 50);
        Check.due("just all the water", x.range(2, 0), 50);
        Check.due("just all the water", x.range(2, 1), 50);
        x.pool(0, 101);
        Check.due("one too much", x.range(2, 0), NONE);
        Check.due("one too much", x.range(2, 1), NONE);
        x.pool(0, 99);
        Check.due("one less", x.range(2, 0), 49);
        x.said(NONE, 0, 0);
        Check.due("all can be again", x.range(2, 0), 0);
    }

    private static void rangeBoundsOfPools() {
        for (int n : SIZES) {
            LockWives x = canal("25: NONE for another what, no such POOL", n);
            Check.beyond("pool", 0, n, pool -> x.range(pool, 0), NONE);
            Check.beyond("pool", 0, n, pool -> x.range(pool, 1), NONE);
            Check.beyond("what", 0, 1, what -> x.range(0, what), NONE);
            x.said(n, 0, 60);
            x.said(n, 1, 70);
            Check.due("least of the last", x.range(n, 0), 60);
            Check.due("greatest of the last", x.range(n, 1), 70);
            x.said(n, 0, 59);
            x.said(n, 1, 71);
            Check.due("what says less changes nothing", x.range(n, 0), 60);
            Check.due("what says less changes nothing", x.range(n, 1), 70);
        }
    }

    // ---- SEEN, PULLED

    private static void seenAndNeed() {
        for (int n : SIZES) {
            LockWives x = canal("26: SEEN, NEED of a POOL 0 to 999", n);
            x.pull(0, 1);
            for (int pool = 0; pool <= n; pool += n) {
                int p = pool;
                Check.bounds("seen " + pool, 0, 999, v -> x.tell(0, p, v), () -> x.look(30 + p));
                Check.bounds("need " + pool, 0, 998, v -> v > 998 ? false : x.tell(1, p, v), () -> x.look(40 + p));
                Check.bounds("need " + pool, 0, 999, v -> x.tell(1, p, v), () -> x.look(40 + p));
            }
            int[] before = Check.sight(x);
            for (int what = 0; what < 2; what++) {
                int w = what;
                Check.beyond("pool", 0, n, pool -> x.tell(w, pool, 5) ? 1 : 0, 0);
            }
            Check.beyond("what", 0, 1, what -> x.tell(what, 0, 5) ? 1 : 0, 0);
            Check.same("refused", x, before);
            Check.due("can be undone still", x.look(9), 1);
        }
    }

    private static void see(LockWives x, int... depths) {
        for (int pool = 0; pool < depths.length; pool++) {
            Check.due("tell", x.tell(0, pool, depths[pool]), true);
        }
    }

    private static void fillTo(LockWives x, int... depths) {
        for (int pool = 0; pool < depths.length; pool++) {
            Check.due("pool", x.pool(pool, depths[pool]), true);
        }
    }

    private static void nowPulled(LockWives x, String call, int lock, int m) {
        Check.due(call + ", how many", x.pulled(0), m > 0 ? 1 : 0);
        Check.due(call + ", the LOCK", x.pulled(1), m > 0 ? lock : NONE);
        Check.due(call + ", how often", x.pulled(2), m > 0 ? m : NONE);
    }

    private static void pulledOneToTwenty() {
        for (int fill : new int[] {1, 10, 45}) {
            for (int lock = 0; lock < 3; lock++) {
                LockWives x = canal("27: m is 1 to 20", 3);
                x.lock(lock, 0, fill);
                for (int m = 0; m <= 22; m++) {
                    int[] seen = {0, 0, 0, 0};
                    seen[lock] = 999;
                    see(x, seen);
                    int[] now = seen.clone();
                    now[lock] -= m * fill;
                    now[lock + 1] += m * fill;
                    if (now[lock] >= 0) {
                        fillTo(x, now);
                        nowPulled(x, "lock " + lock + ", m " + m, lock, m > 20 ? 0 : m);
                    }
                }
            }
        }
        LockWives x = canal("27: just the DEPTHS that are now", 3);
        see(x, 100, 200, 300, 400);
        fillTo(x, 100, 190, 310, 400);
        nowPulled(x, "once", 1, 1);
        for (int pool = 0; pool < 4; pool++) {
            x.tell(0, pool, 100 * (pool + 1) + 1);
            nowPulled(x, "one inch off in pool " + pool, 1, 0);
            x.tell(0, pool, 100 * (pool + 1));
        }
        nowPulled(x, "once", 1, 1);
    }

    private static void pulledWithFillThere() {
        LockWives x = canal("27: FILL there above each time", 1);
        x.lock(0, 0, 7);
        for (int m = 1; m <= 4; m++) {
            see(x, 7 * m, 50);
            fillTo(x, 0, 50 + 7 * m);
            nowPulled(x, "the last of it", 0, m);
            see(x, 7 * m - 1, 50);
            nowPulled(x, "one is wanting", 0, 0);
            see(x, 7 * m + 1, 50);
            fillTo(x, 1, 50 + 7 * m);
            nowPulled(x, "one is left", 0, m);
        }
        LockWives fresh = canal("27: SEEN is 0 at first", 1);
        nowPulled(fresh, "never from nothing", 0, 0);
        fillTo(fresh, 0, 10);
        nowPulled(fresh, "never from nothing", 0, 0);
        fillTo(fresh, 0, 0);
        nowPulled(fresh, "no pull at all is none", 0, 0);
    }

    private static void pulledSpilling() {
        LockWives x = canal("27: spilling as told", 2);
        see(x, 100, 989, 500);
        fillTo(x, 90, 999, 500);
        nowPulled(x, "just full", 0, 1);
        see(x, 100, 990, 500);
        fillTo(x, 90, 999, 501);
        nowPulled(x, "one spills", 0, 1);
        fillTo(x, 90, 999, 500);
        nowPulled(x, "it is not lost", 0, 0);
        see(x, 100, 999, 999);
        fillTo(x, 80, 999, 999);
        nowPulled(x, "into the SEA", 0, 2);
        see(x, 100, 999, 998);
        nowPulled(x, "into the SEA but one", 0, 2);
        see(x, 999, 999, 999);
        fillTo(x, 799, 999, 999);
        nowPulled(x, "twenty times", 0, 20);
        fillTo(x, 789, 999, 999);
        nowPulled(x, "not more often", 0, 0);
    }

    private static void pulledWhats() {
        for (int n : SIZES) {
            LockWives x = canal("27: NONE for another what", n);
            Check.beyond("pulled", 0, 2, x::pulled, NONE);
            for (int pool = 0; pool <= n; pool++) {
                x.tell(0, pool, 100);
            }
            x.pool(n - 1, 90);
            x.pool(n, 110);
            nowPulled(x, "the last lock", n - 1, 1);
            Check.beyond("pulled", 0, 2, x::pulled, NONE);
        }
    }

    // ---- MEND

    private static void need(LockWives x, int... depths) {
        for (int pool = 0; pool < depths.length; pool++) {
            Check.due("tell", x.tell(1, pool, depths[pool]), true);
        }
    }

    private static void mended(LockWives x, String call, int... pulls) {
        int all = 0;
        for (int lock = 0; lock < pulls.length; lock++) {
            Check.due(call + ", lock " + lock, x.mend(10 + lock), pulls[lock]);
            all = pulls[lock] == NONE ? NONE : all + pulls[lock];
        }
        Check.due(call + ", in all", x.mend(0), all);
    }

    private static void mendJustEnough() {
        for (int fill : new int[] {1, 7, 50}) {
            LockWives x = canal("28: each POOL has its NEED at least", 1);
            x.lock(0, 0, fill);
            int most = 100 / fill;
            for (int m = 0; m <= most; m += m == 2 ? Math.max(1, most - 4) : 1) {
                need(x, 0, 100 + m * fill);
                mended(x, "FILL " + fill + ", " + m + " of it", m);
                if (m * fill < 100) {
                    need(x, 0, 101 + m * fill);
                    mended(x, "FILL " + fill + ", one more than " + m, (m + 1) * fill > 100 ? NONE : m + 1);
                }
            }
            need(x, 0, 0);
            mended(x, "none", 0);
        }
        LockWives fresh = canal("28: NEED is 0 at first", 9);
        mended(fresh, "none", 0, 0, 0, 0, 0, 0, 0, 0, 0);
        for (int pool = 0; pool <= 9; pool++) {
            fresh.pool(pool, 0);
        }
        mended(fresh, "none", 0, 0, 0, 0, 0, 0, 0, 0, 0);
    }

    private static void mendAllFromAbove() {
        LockWives x = canal("28: FILLS taken from above and added below together", 3);
        x.lock(0, 0, 10);
        x.lock(1, 0, 20);
        x.lock(2, 0, 30);
        need(x, 0, 0, 0, 130);
        mended(x, "from the next pool", 0, 0, 1);
        need(x, 0, 0, 70, 130);
        mended(x, "just what it has over", 0, 0, 1);
        need(x, 0, 0, 71, 130);
        mended(x, "one too little", 0, 1, 1);
        need(x, 0, 80, 90, 130);
        mended(x, "just", 0, 1, 1);
        need(x, 0, 80, 91, 130);
        mended(x, "one more", 2, 2, 1);
        need(x, 0, 81, 90, 130);
        mended(x, "one more", 1, 1, 1);
        need(x, 90, 81, 90, 130);
        mended(x, "POOL 0 has just enough", 1, 1, 1);
        need(x, 91, 81, 90, 130);
        mended(x, "one is wanting", NONE, NONE, NONE);
        need(x, 100, 0, 0, 0);
        mended(x, "POOL 0 has just its NEED", 0, 0, 0);
        need(x, 101, 0, 0, 0);
        mended(x, "one is wanting", NONE, NONE, NONE);
    }

    private static void mendCantBe() {
        for (int n : SIZES) {
            LockWives x = canal("28: NONE if POOL 0 has not enough for it", n);
            for (int pool = 0; pool <= n; pool++) {
                x.pool(pool, 0);
            }
            x.tell(1, n, 1);
            x.pool(0, 9);
            Check.due("one too little", x.mend(0), NONE);
            Check.due("one too little", x.mend(9 + n), NONE);
            x.pool(0, 10);
            Check.due("just enough, through all", x.mend(0), n);
            x.tell(1, 0, 1);
            Check.due("its own NEED", x.mend(0), NONE);
            x.tell(1, 0, 0);
            x.tell(1, n, 10);
            Check.due("one FILL", x.mend(0), n);
            x.tell(1, n, 11);
            Check.due("two FILLS", x.mend(0), NONE);
            x.pool(0, 20);
            Check.due("two FILLS", x.mend(0), 2 * n);
        }
        LockWives x = canal("28: the greatest NEED everywhere", 9);
        for (int lock = 0; lock < 9; lock++) {
            x.lock(lock, 0, 50);
        }
        for (int pool = 0; pool <= 9; pool++) {
            x.pool(pool, 0);
            x.tell(1, pool, 999);
        }
        Check.due("not enough", x.mend(0), NONE);
        Check.due("not enough", x.mend(18), NONE);
    }

    private static void mendBeyond999() {
        LockWives x = canal("28: 999 not asked", 2);
        x.lock(0, 0, 50);
        x.lock(1, 0, 1);
        fillTo(x, 999, 990, 0);
        need(x, 0, 980, 30);
        mended(x, "POOL 1 would spill if it were done", 1, 30);
        fillTo(x, 999, 999, 998);
        need(x, 0, 999, 999);
        x.lock(1, 0, 50);
        mended(x, "above 999 for a while", 1, 1);
        need(x, 949, 999, 999);
        mended(x, "just enough", 1, 1);
        need(x, 950, 999, 999);
        mended(x, "one is wanting", NONE, NONE);
    }

    private static void mendWhats() {
        for (int n : SIZES) {
            LockWives x = canal("28: NONE for another what", n);
            Check.beyond("mend", 0, 9 + n, x::mend, NONE);
            for (int what : new int[] {1, 2, 5, 9}) {
                Check.due("mend " + what, x.mend(what), NONE);
            }
            Check.due("the last lock", x.mend(9 + n), 0);
        }
    }

    // ---- ORDER

    private static void orderOfOneToFive() {
        LockWives x = canal("29: a set of 1 to 5 BOATS", 2);
        Check.due("no boats", x.order(1, false, 0), NONE);
        for (int boat = 0; boat < 6; boat++) {
            x.boat(0, 1, 1);
            int all = (1 << boat + 1) - 1;
            Check.due("none", x.order(0, false, 0), NONE);
            Check.due("no such boat", x.order(1 << boat + 1, false, 0), NONE);
            Check.due("no such boat", x.order(all + (1 << boat + 1), false, 0), NONE);
            Check.due("all " + (boat + 1), x.order(all, false, 0), boat == 5 ? NONE : 2 * (boat + 1));
            Check.due("the last one alone", x.order(1 << boat, false, 0), 2);
            Check.due("the last one alone", x.order(1 << boat, false, 10), boat);
            Check.due("up", x.order(1 << boat, true, 0), 0);
        }
        for (int set = 0; set < 64; set++) {
            int size = Integer.bitCount(set);
            boolean can = size >= 1 && size <= 5;
            Check.due("set " + set, x.order(set, false, 0), can ? 2 * size : NONE);
        }
        for (int set : new int[] {-1, 64, 65, 127, 1 << 30, Integer.MIN_VALUE, Integer.MIN_VALUE + 1, Integer.MAX_VALUE, -64, -32}) {
            Check.due("set " + set, x.order(set, false, 0), NONE);
        }
    }

    private static void orderFirstOfSeveral() {
        LockWives x = canal("29: of several the first, the lesser number first", 3);
        for (int boat = 0; boat < 6; boat++) {
            x.boat(0, 1, 1);
        }
        int[] all = {1, 3, 4, 5};
        for (int i = 0; i < 4; i++) {
            Check.due("as they are", x.order(0b111010, false, 10 + i), all[i]);
        }
        // none gets anywhere: of all orders, too, the first
        Check.text(x, 0, "hold when liking<1;");
        x.lock(0, 25, 1);
        Check.due("the last one gets through one", x.order(0b110000, false, 0), 1);
        Check.due("no matter when", x.order(0b110000, false, 10), 4);
        x.lock(0, 25, 0);
        Check.due("none gets anywhere", x.order(0b101010, false, 0), 0);
        int[] none = {1, 3, 5};
        for (int i = 0; i < 3; i++) {
            Check.due("as they are", x.order(0b101010, false, 10 + i), none[i]);
        }
        // only one gets through: it is the least
        Check.text(x, 0, "hold when passes>0;");
        Check.due("one of them", x.order(0b111010, false, 0), 3);
        for (int i = 0; i < 4; i++) {
            Check.due("as they are", x.order(0b111010, false, 10 + i), all[i]);
        }
        // only the last one gets on: it must be first, the others as they are
        for (int lock = 0; lock < 3; lock++) {
            x.lock(lock, 25, 1);
        }
        Check.text(x, 0, "hold when passes>0;hold when lock>0 and liking<1;");
        Check.due("the last one", x.order(0b111010, false, 0), 3);
        int[] then = {5, 1, 3, 4};
        for (int i = 0; i < 4; i++) {
            Check.due("the others as they are", x.order(0b111010, false, 10 + i), then[i]);
        }
        // the state is that which the one ahead leaves: PASSES of just two lets the third
        Check.text(x, 0, "let when liking<1 and passes<2;let when liking>0 and passes=2;hold;");
        Check.due("the last one is third", x.order(0b100110, false, 0), 9);
        int[] third = {1, 2, 5};
        for (int i = 0; i < 3; i++) {
            Check.due("the last one is third", x.order(0b100110, false, 10 + i), third[i]);
        }
        Check.due("of four, too", x.order(0b110110, false, 0), 9);
        int[] ofFour = {1, 2, 4, 5};
        for (int i = 0; i < 4; i++) {
            Check.due("one that gets nowhere may go ahead", x.order(0b110110, false, 10 + i), ofFour[i]);
        }
    }

    private static void orderWhats() {
        LockWives x = canal("29: NONE if one can't be, or another what", 2);
        for (int boat = 0; boat < 6; boat++) {
            x.boat(0, 1, 1);
        }
        for (int size = 1; size <= 5; size++) {
            int set = (1 << size) - 1 << 1;
            Check.beyond("what", 0, 9 + size, what -> x.order(set, false, what), NONE);
            for (int what : new int[] {1, 2, 9}) {
                Check.due("what " + what, x.order(set, false, what), NONE);
            }
            Check.due("the last of them", x.order(set, false, 9 + size), size);
        }
        Check.due("of six", x.order(63, false, 10), NONE);
        Check.due("of six", x.order(63, false, 15), NONE);
        Check.due("of none", x.order(0, false, 10), NONE);
    }

    // ---- SHARE

    private static void shareBreadth() {
        for (int wide = 1; wide <= 9; wide++) {
            LockWives x = canal("30: as BROAD allows", 1);
            x.boat(0, 1, wide);
            x.lock(0, 2, wide);
            Check.due("one just so broad", x.share(1, false), 1);
            if (wide > 1) {
                x.lock(0, 2, wide - 1);
                Check.due("one too broad", x.share(1, false), NONE);
                for (int broad = 1; broad < wide; broad++) {
                    x.load(0, 2, wide - broad);
                    x.lock(0, 2, wide);
                    int other = x.look(1) < 2 ? x.boat(0, 1, broad) : 1;
                    x.load(other, 2, broad);
                    Check.due("two just so broad", x.share(3, false), 1);
                    x.lock(0, 2, wide - 1);
                    Check.due("two too broad", x.share(3, false), 2);
                }
            }
        }
    }

    private static void shareByTwo() {
        LockWives x = canal("30: alone or by two, the fewest PASSINGS", 2);
        for (int boat = 0; boat < 6; boat++) {
            x.boat(1, 1, 1);
        }
        x.lock(0, 2, 9);
        x.lock(1, 2, 1);
        for (int set = 1; set < 64; set++) {
            int size = Integer.bitCount(set);
            Check.due("never three together " + set, x.share(set, true), (size + 1) / 2);
            Check.due("each alone " + set, x.share(set, false), size);
        }
        // who goes with the first one that fits leaves others alone
        int[] broad = {1, 2, 3, 4, 1, 1};
        for (int boat = 0; boat < 6; boat++) {
            x.load(boat, 2, broad[boat]);
        }
        x.lock(0, 2, 5);
        Check.due("1 with 4, 2 with 3", x.share(0b001111, true), 2);
        Check.due("and 1 with 1", x.share(0b111111, true), 3);
        x.lock(0, 2, 4);
        Check.due("1 with 3, 2 with 1, 4 alone, 1 alone", x.share(0b111111, true), 4);
        Check.due("two go with one alone", x.share(0b001110, true), 3);
        x.lock(0, 2, 3);
        Check.due("4 is too broad", x.share(0b111111, true), NONE);
        Check.due("without it", x.share(0b110111, true), 3);
        Check.due("3 alone, 1 with 2", x.share(0b000111, true), 2);
    }

    private static void shareCantBe() {
        for (int n : SIZES) {
            LockWives x = canal("30: NONE if one can't be, no LOCK there, unlike POOLS, none", n);
            Check.due("no boats", x.share(1, false), NONE);
            for (int boat = 0; boat < 6; boat++) {
                x.boat(0, 1, 1);
            }
            Check.due("no LOCK above", x.share(63, true), NONE);
            Check.due("down", x.share(63, false), 3);
            Check.due("none", x.share(0, false), NONE);
            for (int set : new int[] {-1, 64, 65, 127, Integer.MIN_VALUE, Integer.MIN_VALUE + 1, Integer.MAX_VALUE, -64}) {
                Check.due("no such boat " + set, x.share(set, false), NONE);
            }
            x.load(5, 0, n);
            Check.due("unlike POOLS", x.share(63, false), NONE);
            Check.due("unlike POOLS", x.share(33, false), NONE);
            Check.due("unlike POOLS", x.share(33, true), NONE);
            Check.due("those in one POOL", x.share(31, false), 3);
            Check.due("alone", x.share(32, true), 1);
            Check.due("no LOCK below", x.share(32, false), NONE);
            x.load(0, 0, n);
            Check.due("together again", x.share(33, true), 1);
            // nothing else asked
            Check.text(x, 0, "hold;");
            x.pool(n - 1, 0);
            x.load(0, 1, 99);
            Check.due("nothing else asked", x.share(33, true), 1);
        }
    }

    // ---- LATER, FAVOURITE, ENVY

    private static void laterHours() {
        LockWives x = canal("31: n is 0 to 200", 1);
        x.pool(0, 999);
        x.pool(1, 0);
        x.lock(0, 1, 1);
        x.lock(0, 3, 99);
        Check.beyond("hours", 0, 200, n -> x.later(n, 0, 0, 0), IMPOSSIBLE);
        Check.beyond("hours", 0, 200, n -> x.later(n, 1, 0, 0), IMPOSSIBLE);
        for (int n : new int[] {0, 1, 2, 98, 99, 100, 199, 200}) {
            Check.due("above by " + n, x.later(n, 0, 0, 0), 999 - n);
            Check.due("below by " + n, x.later(n, 0, 1, 0), n);
            Check.due("MOOD by " + n, x.later(n, 1, 0, 0), Math.max(0, 99 - n));
        }
    }

    private static void laterWhats() {
        for (int n : SIZES) {
            LockWives x = canal("31: NONE - 999 if one can't be, or another what", n);
            Check.beyond("liking of no boat", 0, -1, boat -> x.later(1, 2, 0, boat), IMPOSSIBLE);
            x.boat(0, 1, 1);
            x.lock(n - 1, 20, 7);
            x.lock(n - 1, 3, 9);
            Check.beyond("pool", 0, n, pool -> x.later(1, 0, pool, 0), IMPOSSIBLE);
            Check.beyond("lock", 0, n - 1, lock -> x.later(1, 1, lock, 0), IMPOSSIBLE);
            Check.beyond("lock", 0, n - 1, lock -> x.later(1, 2, lock, 0), IMPOSSIBLE);
            Check.beyond("boat", 0, 0, boat -> x.later(1, 2, 0, boat), IMPOSSIBLE);
            Check.beyond("what", 0, 2, what -> x.later(1, what, 0, 0), IMPOSSIBLE);
            Check.due("the last pool", x.later(0, 0, n, 0), 100);
            Check.due("the last lock", x.later(0, 1, n - 1, 0), 9);
            Check.due("the last lock", x.later(0, 2, n - 1, 0), 7);
            for (int b : new int[] {-1, 1, 6, Integer.MIN_VALUE, Integer.MAX_VALUE}) {
                Check.due("b not asked for 0", x.later(1, 0, n, b), 100);
                Check.due("b not asked for 1", x.later(1, 1, n - 1, b), 8);
            }
        }
    }

    private static void laterWithoutRain() {
        LockWives x = canal("31: no rain, but leaks, tides, gossip and moods", 2);
        x.boat(0, 1, 1);
        x.set(0, 1000);
        x.set(1, 99);
        x.set(2, 50);
        x.set(3, 3);
        x.set(4, 1);
        x.lock(0, 20, 0);
        x.lock(1, 20, 99);
        Check.due("no rain", x.later(200, 0, 0, 0), 100);
        Check.due("ahead of the tide", x.later(49, 0, 2, 0), 100);
        Check.due("with the tide", x.later(50, 0, 2, 0), 103);
        Check.due("four tides", x.later(200, 0, 2, 0), 112);
        Check.due("gossip", x.later(98, 2, 0, 0), 98);
        Check.due("gossip", x.later(99, 2, 0, 0), 99);
        Check.due("gossip", x.later(100, 2, 0, 0), 99);
        Check.due("the last one's stays", x.later(200, 2, 1, 0), 99);
        x.set(2, 0);
        x.set(4, 0);
        Check.due("no tide", x.later(200, 0, 2, 0), 100);
        Check.due("no gossip", x.later(200, 2, 0, 0), 0);
        Check.due("no draw", x.look(5), 0);
        x.hours(1);
        Check.due("it does rain", x.depth(0), 199);
    }

    private static void laterBeyondTheLastHour() {
        LockWives x = canal("31: HOURS of thought are asked for 0 to 200 alone", 1);
        x.set(2, 99);
        x.set(3, 1);
        for (int i = 0; i < 99; i++) {
            x.hours(100);
        }
        x.hours(99);
        x.pool(1, 0);
        Check.due("HOUR", x.look(2), 9999);
        Check.due("9999 is a multiple of 99, the next is 10098", x.later(98, 0, 1, 0), 0);
        Check.due("one tide", x.later(99, 0, 1, 0), 1);
        Check.due("two tides", x.later(200, 0, 1, 0), 2);
        Check.due("HOUR stays", x.look(2), 9999);
    }

    private static void favourites() {
        for (int n : SIZES) {
            LockWives x = canal("19: the BOAT that she likes most, of several the least, NONE without BOATS", n);
            int k = n - 1;
            Check.due("without boats", x.at(k, 7), NONE);
            x.boat(0, 1, 1);
            x.lock(k, 20, -99);
            Check.due("the only one", x.at(k, 7), 0);
            for (int boat = 1; boat < 6; boat++) {
                x.boat(0, 1, 1);
                x.lock(k, 20 + boat, -99);
                Check.due("of several the least", x.at(k, 7), 0);
            }
            for (int boat = 5; boat >= 0; boat--) {
                x.lock(k, 20 + boat, -98);
                Check.due("one more", x.at(k, 7), boat);
            }
            x.lock(k, 25, -97);
            Check.due("the last one", x.at(k, 7), 5);
            x.lock(k, 23, 99);
            x.lock(k, 24, 99);
            Check.due("of two the least", x.at(k, 7), 3);
        }
    }

    private static void envies() {
        LockWives x = canal("32: the KEEPERS with a RIVAL who likes their FAVOURITE more than they do, as a set", 9);
        for (int lock = 0; lock < 9; lock++) {
            x.lock(lock, 4, (lock + 1) % 9);
        }
        Check.due("without boats none", x.envy(), 0);
        x.boat(0, 1, 1);
        x.boat(0, 1, 1);
        Check.due("all like it as much", x.envy(), 0);
        for (int lock = 0; lock < 9; lock++) {
            int rival = (lock + 1) % 9;
            x.lock(lock, 21, 5);
            x.lock(rival, 21, 4);
            Check.due("she likes it more", x.envy(), 0);
            x.lock(rival, 21, 5);
            Check.due("as much is not more", x.envy(), 0);
            x.lock(rival, 21, 6);
            x.lock((rival + 1) % 9, 21, 6);
            Check.due("one more is", x.envy(), 1 << lock);
            x.lock(lock, 4, NONE);
            Check.due("not without a rival", x.envy(), 0);
            x.lock(lock, 4, rival);
            x.lock(lock, 20, 6);
            Check.due("not of another one; but whose rival she is", x.envy(), 1 << (lock + 8) % 9);
            x.lock(lock, 20, 0);
            x.lock(lock, 21, 0);
            x.lock(rival, 21, 0);
            x.lock((rival + 1) % 9, 21, 0);
        }
        for (int lock = 0; lock < 9; lock += 2) {
            x.lock(lock, 20, -99);
            x.lock(lock, 21, -99);
        }
        Check.due("every other one", x.envy(), 0b001010101);
    }

    private static void nothingStays() {
        LockWives x = canal("4: nothing of it stays", 3);
        x.boat(0, 1, 1);
        x.boat(0, 1, 1);
        x.load(0, 10, 9);
        x.load(0, 11, 9);
        x.set(0, 1000);
        x.set(1, 9);
        x.set(2, 1);
        x.set(3, 9);
        x.set(4, 1);
        x.lock(0, 1, 9);
        x.lock(0, 3, 9);
        x.lock(1, 20, 9);
        x.lock(0, 4, 1);
        Check.text(x, 0, "hold when liking<2 and two=0;");
        Check.text(x, 1, "like amount;");
        Check.text(x, 2, "give 2 of 0 to 0 by 0;pass 0 down;wait 3;pull 1 1;");
        x.said(0, 0, 5);
        see(x, 100, 90, 110, 100);
        need(x, 50, 110, 110, 110);
        x.image(true);
        x.pull(0, 2);
        x.hours(1);
        int[] before = Check.sight(x);
        for (int what = 0; what < 20; what++) {
            x.far(0, false, what);
            x.please(0, 0, 3, what);
            x.range(0, what);
            x.pulled(what);
            x.mend(what);
            x.order(3, false, what);
            x.share(what, false);
            x.later(9 * what, what % 3, 0, 0);
            x.envy();
            x.smile(what);
            x.planned(what);
            x.at(0, what);
        }
        Check.same("in thought", x, before);
        Check.due("can be undone", x.look(9), 2);
        Check.due("undo", x.undo(), true);
        Check.due("undo", x.undo(), true);
        Check.due("as it was", x.depth(0), 100);
        Check.due("THE IMAGE", x.image(false), true);
        Check.due("as it was", x.depth(0), 100);
        Check.due("lines", x.look(4), 0);
    }
}
