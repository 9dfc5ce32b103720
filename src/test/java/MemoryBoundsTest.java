import java.util.function.Predicate;

/** Terms 4, SMILE, UNDO and THE IMAGE: each bound just at it and just beyond it. */
public final class MemoryBoundsTest {
    private static final int NONE = LockWives.NONE;
    private static final int[] SIZES = {1, 4, 9};

    public static void main(String[] args) {
        smileOfEachSort();
        smileOfTheLastLine();
        smileOfHoweverMuch();
        smileNotBySpillingOrLeaking();
        smileWhats();
        smileGoesBack();
        undoOfNothing();
        undoOfEachDoing();
        tenAreKept();
        tenHoursAreKept();
        mixedDoingsAreKept();
        refusedDoingsAreNotKept();
        undoneOnesAreNotUndoneAgain();
        tellingForgets();
        otherTellingForgetsNot();
        refusedTellingForgetsNot();
        textsSaidSeenNeedStay();
        noImage();
        imageOfANewObject();
        imageHasAll();
        imageMoreThanOnce();
        imageTakenAnew();
        imageHasNotTheTape();
        imageAndWhatCanBeUndone();
        imageOfOtherSizes();
        Check.finish("MemoryBoundsTest");
    }

    private static LockWives canal(String part, int n) {
        Check.part(part);
        LockWives x = new LockWives();
        Check.due("canal", x.canal(n), true);
        return x;
    }

    // ---- SMILE

    private static void smiles(LockWives x, String call, int... lines) {
        for (int pool = 0; pool < lines.length; pool++) {
            Check.due(call + ", pool " + pool, x.smile(pool), lines[pool]);
        }
    }

    private static void smileOfEachSort() {
        LockWives x = canal("33: a PASSING, a PULL through the LOCK above it, rain (POOL 0), a tide (the last one)", 3);
        x.boat(1, 1, 1);
        x.load(0, 10, 9);
        smiles(x, "no line", NONE, NONE, NONE, NONE);
        x.pull(1, 1);
        smiles(x, "a pull", NONE, NONE, 0, NONE);
        x.pull(0, 1);
        smiles(x, "a pull", NONE, 1, 0, NONE);
        x.pull(2, 1);
        smiles(x, "a pull", NONE, 1, 0, 2);
        x.pass(0, false, NONE);
        smiles(x, "a passing down", NONE, 1, 3, 2);
        x.pass(0, true, NONE);
        smiles(x, "a passing up lets water down, too", NONE, 1, 4, 2);
        x.give(0, 0, 1, 0);
        x.give(0, 0, 1, 1);
        smiles(x, "not by presents", NONE, 1, 4, 2);
        x.set(0, 1000);
        x.hours(1);
        smiles(x, "rain", 7, 1, 4, 2);
        x.set(0, 0);
        x.set(2, 1);
        x.hours(1);
        smiles(x, "a tide", 7, 1, 4, 8);
        LockWives one = canal("33: of one LOCK", 1);
        one.set(0, 1000);
        one.set(2, 1);
        one.hours(1);
        smiles(one, "rain and a tide", 0, 1);
    }

    private static void smileOfTheLastLine() {
        for (int n : SIZES) {
            LockWives x = canal("33: the last line", n);
            for (int i = 0; i < 5; i++) {
                x.pull(n - 1, 1);
                Check.due("the last one", x.smile(n), i);
            }
            x.set(2, 1);
            x.hours(2);
            Check.due("a tide", x.smile(n), 6);
            x.pool(n - 1, 100);
            x.pull(n - 1, 1);
            Check.due("a pull", x.smile(n), 7);
        }
    }

    private static void smileOfHoweverMuch() {
        LockWives x = canal("33: of however much (0, too)", 1);
        x.set(0, 1000);
        x.set(2, 1);
        Check.due("a shower of 0", x.hours(1), 1);
        smiles(x, "0, too", 0, 1);
        Check.due("how much", x.book(0, 4), 0);
        Check.due("how much", x.book(1, 4), 0);
        x.set(2, 0);
        x.pool(0, 9);
        Check.due("a pull by which none flows has no line", x.pull(0, 1), 0);
        smiles(x, "no line", 0, 1);
        x.lock(0, 0, 1);
        Check.due("a pull of one", x.pull(0, 1), 1);
        smiles(x, "one", 0, 2);
    }

    private static void smileNotBySpillingOrLeaking() {
        LockWives x = canal("33: straight, not by spilling or leaking", 3);
        x.pool(1, 999);
        x.pull(0, 1);
        Check.due("it spilled", x.depth(2), 110);
        smiles(x, "spilling", NONE, 0, NONE, NONE);
        for (int lock = 0; lock < 3; lock++) {
            x.lock(lock, 1, 9);
        }
        x.hours(1);
        smiles(x, "leaking", NONE, 0, NONE, NONE);
        x.set(0, 1000);
        x.set(1, 99);
        x.pool(0, 999);
        x.hours(1);
        smiles(x, "rain that spills", 1, 0, NONE, NONE);
    }

    private static void smileWhats() {
        for (int n : SIZES) {
            LockWives x = canal("33: NONE if there is none such", n);
            for (int lock = 0; lock < n; lock++) {
                x.pull(lock, 1);
            }
            Check.due("none into POOL 0", x.smile(0), NONE);
            for (int pool = 1; pool <= n; pool++) {
                Check.due("pool " + pool, x.smile(pool), pool - 1);
            }
            Check.beyond("pool", 0, n, x::smile, NONE);
        }
    }

    private static void smileGoesBack() {
        LockWives x = canal("33: of THE BOOK as it is", 1);
        x.pull(0, 1);
        x.pull(0, 1);
        Check.due("the second", x.smile(1), 1);
        x.undo();
        Check.due("the first", x.smile(1), 0);
        x.undo();
        Check.due("none", x.smile(1), NONE);
        x.pull(0, 1);
        x.canal(1);
        Check.due("told anew", x.smile(1), NONE);
    }

    // ---- UNDO

    private static void undoOfNothing() {
        LockWives x = canal("35: false if there is nothing", 1);
        int[] before = Check.sight(x);
        Check.due("nothing", x.undo(), false);
        Check.same("nothing", x, before);
        x.pull(0, 1);
        Check.due("one", x.undo(), true);
        Check.same("one", x, before);
        Check.due("no other", x.undo(), false);
        Check.same("no other", x, before);
    }

    /** A canal on which each doing changes much. */
    private static LockWives busy(String part) {
        LockWives x = canal(part, 3);
        for (int boat = 0; boat < 6; boat++) {
            x.boat(boat % 4, 1 + boat, 1);
            for (int good = 0; good < 4; good++) {
                x.load(boat, 10 + good, 20 + good);
            }
            for (int lock = 0; lock < 3; lock++) {
                x.lock(lock, 20 + boat, 7 * lock - boat);
            }
        }
        for (int lock = 0; lock < 3; lock++) {
            x.lock(lock, 1, 9 - lock);
            x.lock(lock, 3, 40 - 40 * lock);
            x.lock(lock, 4, (lock + 1) % 3);
            x.lock(lock, 11, 5 - lock);
        }
        x.pool(3, 995);
        x.set(0, 1000);
        x.set(1, 50);
        x.set(2, 1);
        x.set(3, 60);
        x.set(4, 1);
        x.state(77);
        return x;
    }

    private static void goesBack(String call, Predicate<LockWives> act, int times) {
        LockWives x = busy("35: the latest PASSING, PRESENT, PULL, HOUR goes back, STATE, THE BOOK, SEA, too");
        int[] before = Check.sight(x);
        Check.due(call, act.test(x), true);
        for (int i = 0; i < times; i++) {
            Check.due("undo of " + call, x.undo(), true);
        }
        Check.same(call, x, before);
        Check.due("no more", x.undo(), false);
        Check.due("it rains as before", x.hours(1), 1);
        Check.due("drawn as before", x.look(5), 77 * 1664525 + 1013904223);
    }

    private static void undoOfEachDoing() {
        goesBack("a passing down into the SEA", x -> x.pass(2, false, NONE) == 2 && x.look(3) == 6, 1);
        goesBack("a passing up of two", x -> x.pass(5, true, 1) == 0 && x.of(1, 0) == 0, 1);
        goesBack("a present", x -> x.give(0, 1, 20, 0) == 99 && x.at(0, 3) == 41, 1);
        goesBack("a pull into the SEA", x -> x.pull(2, 9) == 9 && x.look(3) == 86, 1);
        goesBack("an hour", x -> x.hours(1) == 1 && x.look(5) != 77 && x.look(4) == 2 && x.look(3) != 0, 1);
        goesBack("four hours", x -> x.hours(4) == 4 && x.look(4) == 8, 4);
        goesBack("ten hours", x -> x.hours(10) == 10 && x.look(4) == 20, 10);
    }

    private static void tenAreKept() {
        for (int doings = 1; doings <= 13; doings++) {
            LockWives x = canal("35: 10 are kept", 1);
            for (int i = 0; i < doings; i++) {
                Check.due("pull", x.pull(0, 1), i < 10 ? 1 : 0);
                Check.due("look(9)", x.look(9), Math.min(10, i + 1));
            }
            int kept = Math.min(10, doings);
            for (int i = 1; i <= kept; i++) {
                Check.due("undo", x.undo(), true);
                Check.due("look(9)", x.look(9), kept - i);
                Check.due("DEPTH", x.depth(0), 100 - 10 * Math.min(10, doings - i));
            }
            Check.due("not the ones before", x.undo(), false);
            Check.due("DEPTH", x.depth(0), 100 - 10 * (doings - kept));
        }
    }

    private static void tenHoursAreKept() {
        LockWives x = canal("35: of HOURS each by itself", 1);
        x.lock(0, 1, 1);
        x.hours(100);
        Check.due("ten", x.look(9), 10);
        for (int i = 1; i <= 10; i++) {
            Check.due("undo", x.undo(), true);
            Check.due("HOUR", x.look(2), 100 - i);
            Check.due("DEPTH", x.depth(1), 200 - i);
        }
        Check.due("not the ninetieth", x.undo(), false);
        Check.due("HOUR", x.look(2), 90);
        x.hours(3);
        x.pull(0, 1);
        Check.due("three and one", x.look(9), 4);
        x.hours(7);
        Check.due("ten", x.look(9), 10);
        for (int i = 0; i < 10; i++) {
            Check.due("undo", x.undo(), true);
        }
        Check.due("the first of the three stays", x.look(2), 91);
        Check.due("no more", x.undo(), false);
    }

    private static void mixedDoingsAreKept() {
        LockWives x = canal("35: the latest ones, of all sorts", 1);
        x.boat(0, 1, 1);
        x.load(0, 10, 99);
        x.lock(0, 10, 1);
        x.pool(0, 120);
        for (int round = 0; round < 3; round++) {
            Check.due("down", x.pass(0, false, NONE), 0);
            Check.due("up", x.pass(0, true, NONE), 0);
            Check.due("give", x.give(0, 0, 1, 0), 1);
            Check.due("pull", x.pull(0, 2), 2);
        }
        Check.due("ten of twelve", x.look(9), 10);
        int[] liking = {3, 2, 2, 2, 2, 1, 1, 1, 1, 0};
        int[] pool = {0, 0, 1, 0, 0, 0, 1, 0, 0, 0};
        int[] depth = {20, 20, 30, 40, 60, 60, 70, 80, 100, 100};
        for (int i = 0; i < 10; i++) {
            Check.due("undo " + i, x.undo(), true);
            Check.due("LIKING " + i, x.at(0, 20), liking[i]);
            Check.due("CARGO " + i, x.of(0, 10), 99 - liking[i]);
            Check.due("POOL " + i, x.of(0, 0), pool[i]);
            Check.due("DEPTH " + i, x.depth(0), depth[i]);
            Check.due("lines " + i, x.look(4), 11 - i);
        }
        Check.due("no more", x.undo(), false);
    }

    private static void refusedDoingsAreNotKept() {
        LockWives x = canal("35: what is refused is none of them", 2);
        x.boat(0, 1, 5);
        x.load(0, 10, 1);
        x.pull(1, 1);
        Check.due("pass", x.pass(0, true, NONE), NONE);
        Check.due("pass", x.pass(0, false, NONE), -2);
        Check.due("give", x.give(0, 0, 2, 0), NONE - 999);
        Check.due("pull", x.pull(2, 1), NONE);
        Check.due("pull", x.pull(0, 10), NONE);
        Check.due("hours", x.hours(101), NONE);
        Check.text(x, 2, "pass 0 down;");
        Check.due("run", x.run(), 0);
        Check.due("one", x.look(9), 1);
        x.pool(0, 9);
        Check.due("a pull by which none flows is one", x.pull(0, 1), 0);
        Check.due("one", x.look(9), 1);
        Check.due("undo", x.undo(), true);
        Check.due("undo", x.undo(), false);
    }

    private static void undoneOnesAreNotUndoneAgain() {
        LockWives x = canal("35: not undone yet", 1);
        x.pull(0, 1);
        x.pull(0, 2);
        Check.due("undo", x.undo(), true);
        Check.due("the second", x.depth(0), 90);
        x.pull(0, 3);
        Check.due("two", x.look(9), 2);
        Check.due("undo", x.undo(), true);
        Check.due("the third", x.depth(0), 90);
        Check.due("undo", x.undo(), true);
        Check.due("the first", x.depth(0), 100);
        Check.due("no more", x.undo(), false);
        // round the ring more than once
        for (int i = 0; i < 25; i++) {
            x.hours(2);
            x.undo();
        }
        Check.due("HOUR", x.look(2), 25);
        Check.due("ten but the one undone", x.look(9), 9);
        for (int i = 1; i <= 9; i++) {
            x.undo();
            Check.due("HOUR", x.look(2), 25 - i);
        }
        Check.due("no more", x.undo(), false);
    }

    private static void forgets(String call, Predicate<LockWives> tell, boolean forgets) {
        LockWives x = busy("35: whatever else is told but texts, SAID, SEEN, NEED forgets them");
        x.image(true);
        x.pull(0, 1);
        x.hours(1);
        Check.due(call + " is told", tell.test(x), true);
        Check.due(call + ", what can be undone", x.look(9), forgets ? 0 : 2);
        Check.due(call + ", undo", x.undo(), !forgets);
        if (!forgets) {
            Check.due(call + ", undo", x.undo(), true);
            Check.due(call + ", DEPTH", x.depth(0), 100);
            Check.due(call + ", HOUR", x.look(2), 0);
        }
        Check.due(call + ", no more", x.undo(), false);
    }

    private static void tellingForgets() {
        forgets("state", x -> x.state(5) != 5, true);
        forgets("state as it is", x -> x.state(x.look(5)) == x.look(5), true);
        forgets("canal", x -> x.canal(3), true);
        forgets("pool", x -> x.pool(0, 5), true);
        forgets("pool as it is", x -> x.pool(0, x.depth(0)), true);
        for (int what : new int[] {0, 1, 2, 3, 10, 13, 20, 25}) {
            forgets("lock " + what, x -> x.lock(0, what, 1), true);
        }
        forgets("rival", x -> x.lock(0, 4, 2), true);
        forgets("no rival", x -> x.lock(0, 4, NONE), true);
        for (int what : new int[] {0, 1, 2, 10, 13}) {
            forgets("load " + what, x -> x.load(0, what, 1), true);
        }
        for (int what = 0; what < 5; what++) {
            int w = what;
            forgets("set " + what, x -> x.set(w, 1), true);
        }
        forgets("image gone back to", x -> x.image(false), true);
        LockWives x = canal("35: a BOAT that comes forgets them", 1);
        x.pull(0, 1);
        Check.due("boat", x.boat(0, 1, 1), 0);
        Check.due("forgotten", x.undo(), false);
    }

    private static void otherTellingForgetsNot() {
        forgets("GATES", x -> Check.text(x, 0, "hold;") == 1, false);
        forgets("HEARTS", x -> Check.text(x, 1, "like 1;") == 1, false);
        forgets("THE PLAN", x -> Check.text(x, 2, "wait 1;") == 1, false);
        forgets("a text with a FAULT", x -> Check.text(x, 0, "?") == NONE, false);
        forgets("no such text", x -> x.text(3) == NONE, false);
        forgets("feed", x -> x.feed(0, 0, 0, 0, 0) == 20, false);
        forgets("end", x -> x.end(0), false);
        forgets("said", x -> x.said(0, 0, 5) == 1, false);
        forgets("all said is forgotten", x -> x.said(NONE, 0, 0) == 0, false);
        forgets("SEEN", x -> x.tell(0, 0, 5), false);
        forgets("NEED", x -> x.tell(1, 0, 5), false);
        forgets("THE IMAGE is taken", x -> x.image(true), false);
    }

    private static void refusedTellingForgetsNot() {
        forgets("canal", x -> !x.canal(0) && !x.canal(10), false);
        forgets("pool", x -> !x.pool(0, 1000) && !x.pool(4, 0), false);
        forgets("lock", x -> !x.lock(0, 0, 0) && !x.lock(3, 0, 1) && !x.lock(0, 5, 1), false);
        forgets("boat", x -> x.boat(0, 1, 1) == NONE, false);
        forgets("load", x -> !x.load(0, 0, 4) && !x.load(6, 1, 1) && !x.load(0, 3, 1), false);
        forgets("set", x -> !x.set(4, 2) && !x.set(5, 0), false);
    }

    private static void textsSaidSeenNeedStay() {
        LockWives x = canal("35: texts, SAID, SEEN, NEED do not go back", 1);
        x.boat(0, 1, 1);
        x.load(0, 10, 9);
        x.pull(0, 1);
        Check.text(x, 0, "hold;");
        Check.text(x, 1, "like 5;");
        Check.text(x, 2, "wait 1;");
        x.said(0, 1, 50);
        x.tell(0, 0, 60);
        x.tell(1, 1, 70);
        x.feed(0, 0, 0, 0, 0);
        Check.text(x, 0, "?");
        x.feed(0, 0, 0, 0, 0);
        Check.due("undo", x.undo(), true);
        Check.due("GATES", x.pass(0, false, NONE), -3);
        Check.due("HEARTS", x.give(0, 0, 1, 0), 5);
        Check.due("THE PLAN", x.look(8), 1);
        Check.due("SAID", x.range(0, 1), 50);
        Check.due("SEEN", x.look(30), 60);
        Check.due("NEED", x.look(41), 70);
        Check.due("fault()", x.fault(0), 1);
        Check.due("the TAPE", x.end(20), true);
    }

    // ---- THE IMAGE

    private static void noImage() {
        LockWives x = busy("36: false if there is none");
        x.pull(0, 1);
        int[] before = Check.sight(x);
        for (int i = 0; i < 3; i++) {
            Check.due("none", x.image(false), false);
        }
        Check.same("none", x, before);
        Check.due("what can be undone stays", x.look(9), 1);
        Check.due("told anew there is none yet", x.canal(2), true);
        Check.due("none", x.image(false), false);
        Check.due("taken", x.image(true), true);
        Check.due("one", x.image(false), true);
    }

    private static void imageOfANewObject() {
        Check.part("36: of a new object");
        LockWives x = new LockWives();
        int[] before = Check.sight(x);
        Check.due("taken", x.image(true), true);
        Check.same("taken", x, before);
        x.canal(9);
        x.boat(9, 1, 1);
        x.pull(8, 9);
        Check.due("gone back to", x.image(false), true);
        Check.same("gone back to", x, before);
    }

    private static LockWives told(String part) {
        LockWives x = canal(part, 3);
        x.boat(0, 7, 2);
        x.boat(2, 9, 3);
        x.load(0, 10, 5);
        x.load(1, 13, 6);
        x.lock(0, 0, 12);
        x.lock(0, 1, 3);
        x.lock(0, 2, 5);
        x.lock(2, 3, -9);
        x.lock(2, 4, 0);
        x.lock(2, 13, 2);
        x.lock(1, 20, 8);
        x.lock(1, 21, -8);
        x.pool(3, 960);
        x.set(0, 1000);
        x.set(1, 40);
        x.set(2, 1);
        x.set(3, 50);
        x.set(4, 1);
        x.state(77);
        Check.text(x, 0, "let;let;hold;");
        Check.text(x, 1, "like 3;like 4;");
        Check.text(x, 2, "pull 0 1;wait 2;wait 3;pull 1 1;");
        x.said(0, 1, 50);
        x.said(1, 0, 207);
        for (int pool = 0; pool <= 3; pool++) {
            x.tell(0, pool, 300 + pool);
            x.tell(1, pool, 10 + pool);
        }
        x.give(0, 0, 1, 0);
        x.pass(0, false, NONE);
        x.hours(2);
        return x;
    }

    private static void changeAll(LockWives x) {
        x.canal(4);
        for (int boat = 0; boat < 3; boat++) {
            x.boat(4, 9, 9);
            x.load(boat, 10, 1);
            x.load(boat, 13, 1);
            for (int lock = 0; lock < 4; lock++) {
                x.lock(lock, 20 + boat, 9);
            }
        }
        for (int lock = 0; lock < 4; lock++) {
            for (int what : new int[] {0, 1, 2, 3, 10, 13}) {
                x.lock(lock, what, 2);
            }
            x.lock(lock, 4, 3 - lock);
        }
        for (int pool = 0; pool <= 4; pool++) {
            x.pool(pool, 500 + pool);
            x.tell(0, pool, 5);
            x.tell(1, pool, 6);
        }
        for (int what = 0; what < 5; what++) {
            x.set(what, 1);
        }
        x.state(-9);
        Check.text(x, 0, "hold;");
        Check.text(x, 1, "like 9;");
        Check.text(x, 2, "wait 9;");
        for (int i = 0; i < 3; i++) {
            x.said(4 - i, 0, 9);
        }
        x.pull(3, 1);
        x.hours(5);
    }

    /** What cannot be seen, but shows in what is done and thought. */
    private static void asTold(LockWives x) {
        Check.due("range", x.range(0, 1), 50);
        Check.due("range", x.range(1, 0), 207);
        Check.due("need", x.mend(12), 0);
        int[] sorts = {1, 0, 3, 4, 3, 4};
        for (int line = 0; line < sorts.length; line++) {
            Check.due("sort", x.book(line, 1), sorts[line]);
        }
        Check.due("hour", x.book(5, 0), 1);
        Check.due("no line", x.book(6, 0), NONE);
        Check.due("planned", x.planned(0), 4);
        Check.due("GATES let", x.far(0, false, 0), 2);
        Check.due("HEARTS", x.give(0, 0, 1, 0), 3);
        Check.due("undo", x.undo(), true);
        Check.due("nothing else can be undone", x.undo(), false);
    }

    private static void imageHasAll() {
        LockWives x = told("36: all that is and was told");
        Check.due("taken", x.image(true), true);
        x.image(false);
        int[] before = Check.sight(x);
        changeAll(x);
        Check.due("gone back to", x.image(false), true);
        Check.same("gone back to", x, before);
        asTold(x);
        Check.due("the same draws", x.hours(1), 1);
        int state = 77;
        for (int i = 0; i < 3; i++) {
            state = state * 1664525 + 1013904223;
        }
        Check.due("the same draws", x.look(5), state);
    }

    private static void imageMoreThanOnce() {
        LockWives x = told("36: gone back to it may be more than once");
        x.image(true);
        x.image(false);
        int[] before = Check.sight(x);
        for (int i = 0; i < 4; i++) {
            Check.due("gone back to", x.image(false), true);
            x.run();
            x.give(0, 0, 2, 0);
            x.said(2, 0, 2);
            x.tell(0, 0, i);
            x.tell(1, 0, i);
            Check.text(x, i % 3, "");
            x.state(i);
        }
        x.image(false);
        Check.same("again", x, before);
        asTold(x);
    }

    private static void imageTakenAnew() {
        LockWives x = canal("36: as it was when it was taken", 1);
        x.image(true);
        x.pull(0, 1);
        Check.due("taken anew", x.image(true), true);
        x.pull(0, 1);
        Check.due("gone back to", x.image(false), true);
        Check.due("the later one", x.depth(0), 90);
        x.pull(0, 3);
        x.image(false);
        Check.due("the later one", x.depth(0), 90);
        x.image(true);
        x.pull(0, 1);
        x.image(false);
        Check.due("taken of what was gone back to", x.depth(0), 90);
    }

    private static void imageHasNotTheTape() {
        LockWives x = canal("36: but the TAPE, fault()", 1);
        Check.due("a fault", Check.text(x, 0, "let when 1/0=1;"), NONE);
        Check.feed(x, "let;");
        x.image(true);
        Check.due("the TAPE is there still", x.text(0), 1);
        Check.due("the TAPE is empty", x.end(1), false);
        x.image(false);
        Check.due("fault() stays", x.fault(0), 0);
        Check.due("fault() stays", x.fault(1), NONE);
        Check.due("the TAPE stays empty", x.end(1), false);
        Check.due("GATES go back", x.look(6), 0);
        Check.due("a fault", Check.text(x, 0, "let let;"), NONE);
        Check.feed(x, "hold;");
        x.image(false);
        Check.due("fault() stays", x.fault(0), 1);
        Check.due("fault() stays", x.fault(1), 4);
        Check.due("the TAPE stays", x.end(6), false);
        Check.due("the TAPE stays", x.text(0), 1);
    }

    private static void imageAndWhatCanBeUndone() {
        LockWives x = canal("36: what can be undone (nothing then)", 1);
        x.pull(0, 1);
        x.pull(0, 1);
        x.image(true);
        Check.due("the taking does not forget", x.look(9), 2);
        Check.due("undo", x.undo(), true);
        Check.due("gone back to", x.image(false), true);
        Check.due("two pulls", x.depth(0), 80);
        Check.due("nothing then", x.look(9), 0);
        Check.due("nothing then", x.undo(), false);
        Check.due("DEPTH", x.depth(0), 80);
        x.pull(0, 1);
        Check.due("what is done then", x.undo(), true);
        Check.due("DEPTH", x.depth(0), 80);
        Check.due("no more", x.undo(), false);
        // undone behind the taking: THE IMAGE is as it was when it was taken
        x.pull(0, 1);
        x.image(true);
        x.undo();
        x.image(false);
        Check.due("as it was when it was taken", x.depth(0), 70);
        Check.due("its line", x.look(4), 3);
    }

    private static void imageOfOtherSizes() {
        for (int from : SIZES) {
            for (int to : SIZES) {
                LockWives x = canal("36: of a CANAL of another size", from);
                x.boat(from, 7, 3);
                x.pool(from, 44);
                x.lock(from - 1, 20, 5);
                x.tell(0, from, 3);
                x.tell(1, from, 4);
                x.image(true);
                int[] before = Check.sight(x);
                x.canal(to);
                x.boat(0, 1, 1);
                x.boat(to, 1, 1);
                x.pool(to, 55);
                x.lock(to - 1, 21, 6);
                Check.due("gone back to", x.image(false), true);
                Check.same("gone back to", x, before);
                Check.due("the next boat has nothing yet", x.boat(0, 1, 1), 1);
                Check.due("no liking", x.at(to < from ? to - 1 : from - 1, 21), 0);
                x.canal(to);
                x.boat(0, 1, 1);
                Check.due("no liking", x.at(to - 1, 20), 0);
                Check.due("SEEN", x.look(30 + to), 0);
                Check.due("NEED", x.look(40 + to), 0);
            }
        }
    }
}
