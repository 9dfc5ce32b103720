/** Terms 2, what is done: passings, presents, pulls, hours and THE BOOK, each bound just at it and just beyond it. */
public final class DoingBoundsTest {
    private static final int NONE = LockWives.NONE;
    private static final int IMPOSSIBLE = NONE - 999;

    public static void main(String[] args) {
        refusalsInOrder(false);
        refusalsInOrder(true);
        notAsTold();
        refusedPassingDoesNothing();
        breadth();
        letting();
        waterForALockful();
        draughtDownwards();
        draughtUpwards();
        whatAPassingDoes();
        amounts();
        keepersAtHand();
        refusedPresentDoesNothing();
        likingIsHeld();
        moodIsHeld();
        rivalLikesLess();
        rivalIsHeld();
        pullsOneToNine();
        pullsAsLongAsThereIs();
        refusedPullDoesNothing();
        hoursOneToHundred();
        lastHour();
        leaks();
        rainAheadOfLeaks();
        tides();
        gossip();
        moodsGoTowardsZero();
        linesOfEachSort();
        book150();
        fullBookAndUndo();
        Check.finish("DoingBoundsTest");
    }

    private static LockWives canal(String part, int n) {
        Check.part(part);
        LockWives x = new LockWives();
        Check.due("canal", x.canal(n), true);
        return x;
    }

    // ---- passings

    /** Each set of reasons at once: the first of them is told. */
    private static void refusalsInOrder(boolean up) {
        String part = "13: refused at the first of NONE, -2, -3, -4, -5" + (up ? ", up" : ", down");
        for (int reasons = 0; reasons < 32; reasons++) {
            LockWives x = canal(part, 2);
            int pool = up ? 1 : 0;
            boolean deep = (reasons & 16) != 0;
            boolean dry = (reasons & 8) != 0;
            x.boat(pool, 1, 1);
            x.boat((reasons & 1) != 0 ? 2 : pool, deep ? 99 : 1, 1);
            x.lock(0, 2, (reasons & 2) != 0 ? 1 : 2);
            Check.text(x, 0, (reasons & 4) != 0 ? "hold;" : "let;");
            x.pool(0, dry ? 9 : 100);
            x.pool(1, 88);
            int want = reasons == 0 ? 0 : NONE - Integer.numberOfTrailingZeros(reasons);
            Check.due("reasons " + reasons, x.pass(0, up, 1), want);
            Check.due("boat", x.of(0, 0), want == 0 ? 1 - pool : pool);
            Check.due("passes", x.at(0, 5), want == 0 ? 1 : 0);
        }
    }

    private static void notAsTold() {
        for (int n : new int[] {1, 9}) {
            LockWives x = canal("13: NONE, no LOCK there, the other one the same one, in another POOL", n);
            x.boat(0, 1, 1);
            x.boat(n, 1, 1);
            x.boat(0, 1, 1);
            Check.due("no LOCK above", x.pass(0, true, NONE), NONE);
            Check.due("no LOCK above", x.pass(0, true, 2), NONE);
            Check.due("no LOCK below", x.pass(1, false, NONE), NONE);
            Check.due("the same one", x.pass(0, false, 0), NONE);
            Check.due("another POOL", x.pass(0, false, 1), NONE);
            Check.due("another POOL", x.pass(1, true, 0), NONE);
            Check.beyond("no such BOAT", 0, 2, boat -> x.pass(boat, false, NONE), NONE);
            Check.beyond("no such BOAT", 0, 2, boat -> x.pass(boat, true, 0), NONE);
            Check.due("no such other one", x.pass(0, false, 3), NONE);
            Check.due("no such other one", x.pass(0, false, -2), NONE);
            for (int with : Check.FAR_OFF) {
                Check.due("no such other one", x.pass(0, false, with), NONE);
            }
            Check.due("nothing is done", x.look(9), 0);
            Check.due("as told", x.pass(0, false, 2), 0);
            Check.due("the last one", x.pass(1, true, NONE), n - 1);
        }
    }

    private static void refusedPassingDoesNothing() {
        for (int why = -5; why <= NONE; why++) {
            LockWives x = canal("13: refused, doing nothing", 2);
            x.boat(0, why == -5 ? 99 : 10, 2);
            x.boat(0, 10, 2);
            x.boat(2, 10, 2);
            x.pool(0, why == -4 ? 9 : 100);
            x.pool(1, 80);
            x.lock(0, 2, why == -2 ? 3 : 4);
            Check.text(x, 0, why == -3 ? "hold when lock=0;" : "");
            x.pull(1, 1);
            x.hours(1);
            int[] before = Check.sight(x);
            Check.due("why", x.pass(0, false, why == NONE ? 2 : 1), why);
            Check.same("refused by " + why, x, before);
            Check.due("what can be undone stays", x.look(9), 2);
        }
    }

    private static void breadth() {
        LockWives x = canal("13: -2, both BROAD together are above WIDE, one alone too", 1);
        x.boat(0, 1, 1);
        x.boat(0, 1, 1);
        for (int wide : new int[] {1, 2, 5, 9}) {
            x.lock(0, 2, wide);
            for (int broad = Math.max(1, wide - 1); broad <= Math.min(9, wide + 1); broad++) {
                x.load(0, 2, broad);
                Check.due("alone " + broad + " of " + wide, x.pass(0, false, NONE), broad > wide ? -2 : 0);
                x.undo();
                for (int other = 1; other <= 2 && broad > 1; other++) {
                    x.load(0, 2, broad - 1);
                    x.load(1, 2, other);
                    int want = broad - 1 + other > wide ? -2 : 0;
                    Check.due("two " + (broad - 1 + other) + " of " + wide, x.pass(0, false, 1), want);
                    x.undo();
                    Check.due("two " + (broad - 1 + other) + " of " + wide, x.pass(1, false, 0), want);
                    x.undo();
                }
            }
        }
    }

    private static void letting() {
        LockWives x = canal("13: -3, the KEEPER does not LET it, then the other one", 1);
        x.boat(0, 10, 1);
        x.boat(0, 20, 1);
        x.lock(0, 20, 5);
        x.lock(0, 21, 6);
        Check.text(x, 0, "let when liking>4 and draught<21;hold;");
        Check.due("both", x.pass(0, false, 1), 0);
        x.undo();
        Check.text(x, 0, "let when liking>5;hold;");
        Check.due("the first one is held", x.pass(0, false, 1), -3);
        Check.due("the other one is held", x.pass(1, false, 0), -3);
        Check.due("alone", x.pass(1, false, NONE), 0);
        x.undo();
        Check.text(x, 0, "let when draught<20;hold;");
        Check.due("the other one is held", x.pass(0, false, 1), -3);
        Check.due("the first one is held", x.pass(1, false, 0), -3);
        Check.due("alone", x.pass(0, false, NONE), 0);
        x.undo();
        Check.text(x, 0, "hold when two=1;");
        Check.due("two", x.pass(0, false, 1), -3);
        Check.due("alone", x.pass(0, false, NONE), 0);
        x.undo();
        Check.text(x, 0, "hold when two=0;");
        Check.due("two", x.pass(0, false, 1), 0);
        Check.due("alone", x.pass(1, true, NONE), -3);
    }

    private static void waterForALockful() {
        LockWives x = canal("13: -4, DEPTH above is below FILL", 2);
        x.boat(1, 1, 1);
        for (int fill : new int[] {1, 10, 50}) {
            x.lock(1, 0, fill);
            x.pool(1, fill - 1);
            Check.due("one too little", x.pass(0, false, NONE), -4);
            x.pool(1, fill);
            Check.due("just enough", x.pass(0, false, NONE), 1);
            Check.due("none is left", x.depth(1), 0);
            x.undo();
            // upwards too it is the pool above that gives
            x.lock(0, 0, fill);
            x.pool(0, fill - 1);
            Check.due("one too little", x.pass(0, true, NONE), -4);
            x.pool(0, fill);
            Check.due("enough, but none is left", x.pass(0, true, NONE), -5);
            x.pool(0, fill + 1);
            Check.due("one is left", x.pass(0, true, NONE), 0);
            x.undo();
        }
    }

    private static void draughtDownwards() {
        LockWives x = canal("13: -5, DRAUGHT above DEPTH below as it would be then", 1);
        x.boat(0, 1, 1);
        x.boat(0, 1, 1);
        for (int draught : new int[] {10, 11, 60, 99}) {
            x.load(0, 1, draught);
            x.pool(1, draught - 10);
            Check.due("just deep enough", x.pass(0, false, NONE), 0);
            x.undo();
            Check.due("with another one", x.pass(0, false, 1), 0);
            x.undo();
            Check.due("as the other one", x.pass(1, false, 0), 0);
            x.undo();
            if (draught > 10) {
                x.pool(1, draught - 11);
                Check.due("one too shallow", x.pass(0, false, NONE), -5);
                Check.due("one too shallow for the first one", x.pass(0, false, 1), -5);
                Check.due("one too shallow for the other one", x.pass(1, false, 0), -5);
                Check.due("not for that one alone", x.pass(1, false, NONE), 0);
                x.undo();
            }
        }
        x.pool(1, 999);
        Check.due("full", x.pass(0, false, NONE), 0);
    }

    private static void draughtUpwards() {
        LockWives x = canal("13: -5, DRAUGHT above DEPTH above as it would be then", 1);
        x.boat(1, 1, 1);
        x.boat(1, 1, 1);
        for (int draught : new int[] {1, 2, 60, 99}) {
            x.load(0, 1, draught);
            x.pool(0, draught + 10);
            Check.due("just deep enough", x.pass(0, true, NONE), 0);
            x.undo();
            Check.due("with another one", x.pass(0, true, 1), 0);
            x.undo();
            Check.due("as the other one", x.pass(1, true, 0), 0);
            x.undo();
            x.pool(0, draught + 9);
            Check.due("one too shallow", x.pass(0, true, NONE), -5);
            Check.due("one too shallow for the first one", x.pass(0, true, 1), -5);
            Check.due("one too shallow for the other one", x.pass(1, true, 0), -5);
        }
        // the pool from which they come is not asked
        x.pool(0, 999);
        x.pool(1, 0);
        Check.due("from a dry pool", x.pass(0, true, NONE), 0);
    }

    private static void whatAPassingDoes() {
        LockWives x = canal("13: FILL flows from above to below, they come to the other POOL, PASSES is one more", 2);
        x.boat(1, 1, 1);
        x.boat(1, 1, 1);
        x.boat(1, 1, 1);
        x.lock(1, 0, 40);
        Check.due("down", x.pass(0, false, 2), 1);
        int[] where = {2, 1, 2};
        for (int boat = 0; boat < 3; boat++) {
            Check.due("pool of " + boat, x.of(boat, 0), where[boat]);
        }
        Check.due("above", x.depth(1), 60);
        Check.due("below", x.depth(2), 140);
        Check.due("not elsewhere", x.depth(0), 100);
        Check.due("PASSES, of two one", x.at(1, 5), 1);
        Check.due("not elsewhere", x.at(0, 5), 0);
        Check.due("up", x.pass(2, true, NONE), 1);
        Check.due("above again", x.of(2, 0), 1);
        Check.due("flows down all the same", x.depth(1), 20);
        Check.due("flows down all the same", x.depth(2), 180);
        Check.due("PASSES", x.at(1, 5), 2);
        Check.due("no water for a third", x.pass(2, false, NONE), -4);
        Check.due("PASSES, none refused", x.at(1, 5), 2);
        Check.due("through the lock above", x.pass(2, true, NONE), 0);
        Check.due("PASSES", x.at(0, 5), 1);
        Check.due("its own FILL", x.depth(0), 90);
    }

    // ---- presents

    private static void amounts() {
        LockWives x = canal("14: so much is 1 to 99, as far as there is CARGO", 1);
        x.boat(0, 1, 1);
        for (int good = 0; good < 4; good++) {
            int g = good;
            x.load(0, 10 + good, 99);
            Check.beyond("amount", 1, 99, amount -> x.give(0, g, amount, 0), IMPOSSIBLE);
            Check.due("all of it", x.give(0, good, 99, 0), 0);
            Check.due("none is left", x.of(0, 10 + good), 0);
            Check.due("none is left", x.give(0, good, 1, 0), IMPOSSIBLE);
            x.load(0, 10 + good, 7);
            Check.due("one too much", x.give(0, good, 8, 0), IMPOSSIBLE);
            Check.due("but one", x.give(0, good, 6, 0), 0);
            Check.due("one is left", x.of(0, 10 + good), 1);
            Check.due("the last one", x.give(0, good, 1, 0), 0);
            Check.due("none is left", x.of(0, 10 + good), 0);
            Check.due("PRESENTS", x.at(0, 6), 3 * (good + 1));
        }
        x.boat(0, 1, 1);
        for (int boat = 0; boat < 2; boat++) {
            x.load(boat, 10, 9);
            x.load(boat, 13, 9);
        }
        for (int boat = 0; boat < 2; boat++) {
            int b = boat;
            Check.beyond("GOOD", 0, 3, good -> x.give(b, good, 1, 0), IMPOSSIBLE);
        }
        Check.beyond("BOAT", 0, 1, boat -> x.give(boat, 0, 1, 0), IMPOSSIBLE);
        Check.beyond("LOCK", 0, 0, lock -> x.give(0, 0, 1, lock), IMPOSSIBLE);
    }

    private static void keepersAtHand() {
        for (int n : new int[] {1, 2, 9}) {
            LockWives x = canal("14: a LOCK at its POOL, above or below it", n);
            x.boat(0, 1, 1);
            for (int pool = 0; pool <= n; pool++) {
                x.load(0, 0, pool);
                for (int lock = -1; lock <= n; lock++) {
                    x.load(0, 10, 1);
                    boolean there = lock >= 0 && lock < n && (lock == pool || lock == pool - 1);
                    Check.due("pool " + pool + ", lock " + lock, x.give(0, 0, 1, lock), there ? 0 : IMPOSSIBLE);
                }
            }
        }
    }

    private static void refusedPresentDoesNothing() {
        LockWives x = canal("14: NONE - 999, and nothing is done", 3);
        x.boat(1, 1, 1);
        x.load(0, 10, 9);
        x.lock(0, 10, 9);
        x.lock(0, 4, 1);
        x.give(0, 0, 1, 0);
        int[] before = Check.sight(x);
        int[][] refused = {{1, 0, 1, 0}, {-1, 0, 1, 0}, {0, 4, 1, 0}, {0, -1, 1, 0}, {0, 0, 0, 0}, {0, 0, 9, 0}, {0, 0, 100, 0},
            {0, 0, -1, 0}, {0, 0, 1, 2}, {0, 0, 1, 3}, {0, 0, 1, -1}, {0, 1, 1, 0}};
        for (int[] r : refused) {
            Check.due("refused", x.give(r[0], r[1], r[2], r[3]), IMPOSSIBLE);
        }
        Check.same("refused", x, before);
        Check.due("not refused", x.give(0, 0, 8, 0), 72);
    }

    private static void likingIsHeld() {
        LockWives x = canal("14: LIKING is D more, held to -99 to 99", 1);
        x.boat(0, 1, 1);
        int[][] steps = {{97, 1, 98}, {98, 1, 99}, {99, 1, 99}, {0, 99, 99}, {1, 99, 99}, {-99, 99, 0}, {99, 99, 99},
            {-97, -1, -98}, {-98, -1, -99}, {-99, -1, -99}, {0, -99, -99}, {-1, -99, -99}, {99, -99, 0}, {-99, -99, -99}, {5, 0, 5}};
        for (int[] step : steps) {
            x.load(0, 10, 1);
            x.lock(0, 20, step[0]);
            Check.text(x, 1, step[1] < 0 ? "like 0-" + -step[1] + ";" : "like " + step[1] + ";");
            Check.due("D", x.give(0, 0, 1, 0), step[1]);
            Check.due(step[0] + " and " + step[1], x.at(0, 20), step[2]);
        }
    }

    private static void moodIsHeld() {
        LockWives x = canal("14: MOOD one more, one less, held to -99 to 99", 1);
        x.boat(0, 1, 1);
        int[][] steps = {{97, 1, 98}, {98, 1, 99}, {99, 1, 99}, {98, 50, 99}, {0, 2, 1}, {-1, 1, 0}, {-99, 1, -98},
            {-97, -1, -98}, {-98, -1, -99}, {-99, -1, -99}, {0, -2, -1}, {1, -50, 0}, {99, -1, 98}, {7, 0, 7}, {-7, 0, -7}};
        for (int[] step : steps) {
            x.load(0, 10, 1);
            x.lock(0, 3, step[0]);
            Check.text(x, 1, step[1] < 0 ? "like 0-" + -step[1] + ";" : "like " + step[1] + ";");
            Check.due("D", x.give(0, 0, 1, 0), step[1]);
            Check.due(step[0] + " and " + step[1], x.at(0, 3), step[2]);
        }
    }

    private static void rivalLikesLess() {
        LockWives x = canal("14: if D is above 0, her RIVAL's LIKING is D by 2 less", 3);
        x.boat(1, 1, 1);
        x.boat(1, 1, 1);
        x.lock(0, 4, 2);
        int[][] steps = {{1, 0}, {2, 1}, {3, 1}, {4, 2}, {98, 49}, {99, 49}, {0, 0}, {-1, 0}, {-2, 0}, {-99, 0}};
        for (int[] step : steps) {
            x.load(0, 10, 2);
            x.lock(0, 20, 0);
            x.lock(2, 20, 50);
            x.lock(1, 20, 50);
            x.lock(2, 21, 50);
            x.lock(2, 3, 5);
            Check.text(x, 1, step[0] < 0 ? "like 0-" + -step[0] + ";" : "like " + step[0] + ";");
            Check.due("D", x.give(0, 0, 1, 0), step[0]);
            Check.due("rival, D " + step[0], x.at(2, 20), 50 - step[1]);
            Check.due("nobody else", x.at(1, 20), 50);
            Check.due("of no other boat", x.at(2, 21), 50);
            Check.due("her mood stays", x.at(2, 3), 5);
            Check.due("her presents stay", x.at(2, 6), 0);
            x.lock(0, 4, NONE);
            Check.due("D", x.give(0, 0, 1, 0), step[0]);
            Check.due("without a rival nobody", x.at(2, 20), 50 - step[1]);
            x.lock(0, 4, 2);
        }
    }

    private static void rivalIsHeld() {
        LockWives x = canal("14: her RIVAL's LIKING is held to -99", 2);
        x.boat(1, 1, 1);
        x.lock(1, 4, 0);
        int[][] steps = {{-50, 98, -99}, {-50, 99, -99}, {-51, 98, -99}, {-49, 98, -98}, {-98, 2, -99}, {-99, 2, -99}, {-98, 4, -99},
            {99, 99, 50}};
        for (int[] step : steps) {
            x.load(0, 10, 1);
            x.lock(0, 20, step[0]);
            Check.text(x, 1, "like " + step[1] + ";");
            Check.due("D", x.give(0, 0, 1, 1), step[1]);
            Check.due(step[0] + " less half of " + step[1], x.at(0, 20), step[2]);
        }
    }

    // ---- pulls

    private static void pullsOneToNine() {
        for (int n : new int[] {1, 9}) {
            LockWives x = canal("15: a LOCK is PULLED 1 to 9 times", n);
            Check.beyond("m", 1, 9, m -> x.pull(0, m), NONE);
            Check.beyond("lock", 0, n - 1, lock -> x.pull(lock, 1), NONE);
            Check.due("nothing is done", x.look(9), 0);
            Check.due("once", x.pull(n - 1, 1), 1);
            Check.due("nine times", x.pull(n - 1, 9), 9);
            Check.due("above", x.depth(n - 1), 0);
            Check.due("below", x.depth(n), 200);
            Check.due("no PASSES", x.at(n - 1, 5), 0);
        }
    }

    private static void pullsAsLongAsThereIs() {
        LockWives x = canal("15: as long as DEPTH above is FILL at least", 1);
        for (int fill : new int[] {1, 10, 50}) {
            x.lock(0, 0, fill);
            int[][] depths = {{0, 0}, {fill - 1, 0}, {fill, 1}, {2 * fill - 1, 1}, {2 * fill, 2}, {9 * fill - 1, 8}, {9 * fill, 9},
                {10 * fill, 9}};
            for (int[] d : depths) {
                x.pool(0, d[0]);
                x.pool(1, 0);
                int lines = x.look(4);
                Check.due("FILL " + fill + ", DEPTH " + d[0], x.pull(0, 9), d[1]);
                Check.due("above", x.depth(0), d[0] - d[1] * fill);
                Check.due("below", x.depth(1), d[1] * fill);
                Check.due("a line only if some flowed", x.look(4) - lines, d[1] > 0 ? 1 : 0);
                Check.due("can be undone", x.look(9), 1);
            }
        }
    }

    private static void refusedPullDoesNothing() {
        LockWives x = canal("15: NONE if one can't be", 2);
        x.pull(0, 1);
        int[] before = Check.sight(x);
        int[][] refused = {{0, 0}, {0, 10}, {2, 1}, {-1, 1}, {0, -1}};
        for (int[] r : refused) {
            Check.due("refused", x.pull(r[0], r[1]), NONE);
        }
        Check.same("refused", x, before);
    }

    // ---- hours

    private static void hoursOneToHundred() {
        LockWives x = canal("16: HOURS are 1 to 100", 1);
        x.set(0, 1000);
        Check.due("one", x.hours(1), 1);
        int[] before = Check.sight(x);
        Check.beyond("hours", 1, 100, x::hours, NONE);
        Check.due("0", x.hours(0), NONE);
        Check.same("refused", x, before);
        Check.due("a hundred", x.hours(100), 100);
        Check.due("HOUR", x.look(2), 101);
        x.set(0, 0);
        Check.due("without rain", x.hours(100), 0);
        Check.due("HOUR", x.look(2), 201);
    }

    private static void lastHour() {
        LockWives x = canal("16: NONE, and nothing is done, if HOUR would be above 9999", 1);
        x.lock(0, 1, 1);
        for (int i = 0; i < 99; i++) {
            Check.due("hours", x.hours(100), 0);
        }
        x.pool(0, 999);
        x.pool(1, 0);
        Check.due("HOUR", x.look(2), 9900);
        x.pull(0, 1);
        int[] before = Check.sight(x);
        Check.due("10000", x.hours(100), NONE);
        Check.same("refused", x, before);
        Check.due("9999", x.hours(99), 0);
        Check.due("HOUR", x.look(2), 9999);
        Check.due("leaked", x.depth(0), 999 - 10 - 99);
        before = Check.sight(x);
        Check.due("10000", x.hours(1), NONE);
        Check.due("10098", x.hours(99), NONE);
        Check.same("refused", x, before);
        x.boat(0, 1, 1);
        Check.text(x, 0, "let when hour=9999;hold;");
        Check.due("at the last hour", x.pass(0, false, NONE), 0);
        Check.due("its line", x.book(x.look(4) - 1, 0), 9999);
        x.undo();
        Check.due("canal", x.canal(1), true);
        Check.due("HOUR 0 again", x.look(2), 0);
        Check.due("hours", x.hours(100), 0);
    }

    private static void leaks() {
        LockWives x = canal("16: LEAK flows down, or what there is above", 3);
        for (int depth : new int[] {0, 1, 8, 9, 10}) {
            x.lock(0, 1, 9);
            x.pool(0, depth);
            x.pool(1, 20);
            Check.due("hours", x.hours(1), 0);
            Check.due("above", x.depth(0), Math.max(0, depth - 9));
            Check.due("below", x.depth(1), 20 + Math.min(9, depth));
        }
        // lock by lock, 0 first: what has come down may go on in the same hour
        for (int lock = 0; lock < 3; lock++) {
            x.lock(lock, 1, 9 - lock);
            x.pool(lock, 0);
        }
        x.pool(0, 9);
        x.pool(3, 0);
        x.hours(1);
        int[] depths = {0, 1, 1, 7};
        for (int pool = 0; pool < 4; pool++) {
            Check.due("pool " + pool, x.depth(pool), depths[pool]);
        }
        Check.due("no lines", x.look(4), 0);
    }

    private static void rainAheadOfLeaks() {
        LockWives x = canal("16: first rain, then leaks", 1);
        x.set(0, 1000);
        x.set(1, 5);
        x.lock(0, 1, 9);
        x.pool(0, 0);
        x.pool(1, 0);
        Check.due("rain", x.hours(1), 1);
        Check.due("above", x.depth(0), 0);
        Check.due("below", x.depth(1), 5);
        x.set(1, 99);
        Check.due("rain", x.hours(1), 1);
        Check.due("above", x.depth(0), 90);
        Check.due("below", x.depth(1), 14);
        Check.due("a shower of 99", x.book(1, 4), 99);
        x.set(1, 0);
        Check.due("rain of 0", x.hours(1), 1);
        Check.due("a shower of 0", x.book(2, 4), 0);
    }

    private static void tides() {
        for (int period : new int[] {0, 1, 2, 3, 98, 99}) {
            LockWives x = canal("16: if PERIOD is above 0 and the HOUR behind is a multiple of it", 1);
            x.set(2, period);
            x.set(3, 1);
            int came = 0;
            for (int hour = 1; hour <= 6; hour++) {
                x.hours(1);
                came += period > 0 && hour % period == 0 ? 1 : 0;
                Check.due("period " + period + ", hour " + hour, x.depth(1), 100 + came);
            }
            x.hours(91);
            Check.due("97 hours", x.depth(1), 100 + (period == 0 ? 0 : 97 / period));
            x.hours(1);
            Check.due("98 hours", x.depth(1), 100 + (period == 0 ? 0 : 98 / period));
            x.hours(1);
            Check.due("99 hours", x.depth(1), 100 + (period == 0 ? 0 : 99 / period));
            x.hours(100);
            Check.due("199 hours", x.depth(1), 100 + (period == 0 ? 0 : 199 / period));
            Check.due("from the SEA", x.look(3), period == 0 ? 0 : -(199 / period));
            Check.due("pool 0", x.depth(0), 100);
        }
        LockWives x = canal("16: a tide of 0", 1);
        x.set(2, 1);
        x.hours(1);
        Check.due("a line", x.look(4), 1);
        Check.due("of 0", x.book(0, 4), 0);
        Check.due("no water", x.look(11), 200);
    }

    private static void gossip() {
        LockWives x = canal("16: LIKINGS go one towards the next one's, the last one's stays, as all are ahead of it", 3);
        int[][] likings = {{0, 0, 5}, {5, 5, 5}, {4, 5, 5}, {6, 5, 5}, {-99, 99, -99}, {99, -99, 98}};
        int[][] then = {{0, 1, 5}, {5, 5, 5}, {5, 5, 5}, {5, 5, 5}, {-98, 98, -99}, {98, -98, 98}};
        for (int boat = 0; boat < 6; boat++) {
            x.boat(0, 1, 1);
            for (int lock = 0; lock < 3; lock++) {
                x.lock(lock, 20 + boat, likings[boat][lock]);
            }
        }
        x.hours(1);
        for (int boat = 0; boat < 6; boat++) {
            for (int lock = 0; lock < 3; lock++) {
                Check.due("with GOSSIP 0", x.at(lock, 20 + boat), likings[boat][lock]);
            }
        }
        x.set(4, 1);
        x.hours(1);
        for (int boat = 0; boat < 6; boat++) {
            for (int lock = 0; lock < 3; lock++) {
                Check.due("with GOSSIP 1, boat " + boat + ", lock " + lock, x.at(lock, 20 + boat), then[boat][lock]);
            }
        }
        LockWives one = canal("16: one keeper alone has no next one", 1);
        one.boat(0, 1, 1);
        one.lock(0, 20, 7);
        one.set(4, 1);
        one.hours(9);
        Check.due("stays", one.at(0, 20), 7);
    }

    private static void moodsGoTowardsZero() {
        LockWives x = canal("16: MOODS go one towards 0", 9);
        int[] moods = {99, 98, 2, 1, 0, -1, -2, -98, -99};
        int[] then = {98, 97, 1, 0, 0, 0, -1, -97, -98};
        for (int lock = 0; lock < 9; lock++) {
            x.lock(lock, 3, moods[lock]);
        }
        x.hours(1);
        for (int lock = 0; lock < 9; lock++) {
            Check.due("from " + moods[lock], x.at(lock, 3), then[lock]);
        }
        x.hours(97);
        Check.due("from 99", x.at(0, 3), 1);
        x.hours(1);
        Check.due("from 99", x.at(0, 3), 0);
        x.hours(1);
        Check.due("from 99", x.at(0, 3), 0);
        Check.due("from -99", x.at(8, 3), 0);
    }

    // ---- the book

    private static void linesOfEachSort() {
        LockWives x = canal("21: HOUR, sort, LOCK, BOAT, how much", 2);
        x.boat(1, 1, 1);
        x.boat(1, 1, 1);
        x.load(1, 12, 99);
        x.lock(1, 0, 7);
        x.set(0, 1000);
        x.set(1, 6);
        x.set(2, 2);
        x.set(3, 8);
        x.pass(1, false, 0);
        x.give(1, 2, 99, 1);
        x.pull(1, 3);
        x.hours(2);
        x.pass(0, true, NONE);
        int[][] lines = {{0, 0, 1, 1, 7}, {0, 1, 1, 1, 99}, {0, 2, 1, NONE, 21}, {0, 3, NONE, NONE, 6}, {1, 3, NONE, NONE, 6},
            {1, 4, NONE, NONE, 8}, {2, 0, 1, 0, 7}};
        Check.due("lines", x.look(4), lines.length);
        for (int i = 0; i < lines.length; i++) {
            for (int what = 0; what < 5; what++) {
                Check.due("line " + i + ", what " + what, x.book(i, what), lines[i][what]);
            }
            int line = i;
            Check.beyond("what", 0, 4, what -> x.book(line, what), NONE);
        }
        Check.beyond("line", 0, lines.length - 1, line -> x.book(line, 1), NONE);
    }

    private static void book150() {
        LockWives x = canal("21: THE BOOK has 150 lines, no more then", 1);
        x.boat(0, 1, 1);
        x.load(0, 10, 9);
        x.set(2, 1);
        x.hours(100);
        x.hours(49);
        x.set(2, 0);
        Check.due("149", x.look(4), 149);
        Check.due("no line 149", x.book(149, 1), NONE);
        Check.due("give", x.give(0, 0, 1, 0), 0);
        Check.due("150", x.look(4), 150);
        Check.due("line 149", x.book(149, 1), 1);
        Check.due("no line 150", x.book(150, 1), NONE);
        Check.due("give", x.give(0, 0, 1, 0), 0);
        Check.due("pass", x.pass(0, false, NONE), 0);
        Check.due("pull", x.pull(0, 1), 1);
        x.set(0, 1000);
        x.set(1, 3);
        x.set(2, 1);
        x.set(3, 4);
        Check.due("it rains all the same", x.hours(2), 2);
        Check.due("150", x.look(4), 150);
        Check.due("no line 150", x.book(150, 1), NONE);
        Check.due("line 149 stays", x.book(149, 1), 1);
        Check.due("line 149 stays", x.book(149, 4), 1);
        Check.due("line 148 stays", x.book(148, 0), 148);
        Check.due("line 0 stays", x.book(0, 0), 0);
        Check.due("all is done all the same", x.depth(0), 100 - 20 + 6);
        Check.due("all is done all the same", x.depth(1), 100 + 20 + 8);
        Check.due("PRESENTS", x.at(0, 6), 2);
        Check.due("SMILE knows of no more", x.smile(1), 148);
        Check.due("SMILE knows of no more", x.smile(0), NONE);
    }

    private static void fullBookAndUndo() {
        LockWives x = canal("35: THE BOOK goes back, too", 1);
        x.set(2, 1);
        x.hours(100);
        x.hours(49);
        x.set(0, 1000);
        Check.due("149", x.look(4), 149);
        Check.due("rain and a tide, of which one is written", x.hours(1), 1);
        Check.due("150", x.look(4), 150);
        Check.due("rain", x.book(149, 1), 3);
        x.pull(0, 1);
        Check.due("150", x.look(4), 150);
        Check.due("undo", x.undo(), true);
        Check.due("150 as there were", x.look(4), 150);
        Check.due("undo", x.undo(), true);
        Check.due("149", x.look(4), 149);
        Check.due("no line 149", x.book(149, 1), NONE);
        x.pull(0, 1);
        Check.due("a pull", x.book(149, 1), 2);
    }
}
