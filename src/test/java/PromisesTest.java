/** At least one run of calls for each promise of the document, by its number. */
public final class PromisesTest {
    private static final int NONE = LockWives.NONE;
    private static final int IMPOSSIBLE = NONE - 999;

    public static void main(String[] args) {
        newObject();
        states();
        canals();
        pools();
        locks();
        boats();
        loads();
        settings();
        tapes();
        texts();
        faultsOfLaws();
        faultsOfPlans();
        passings();
        refusals();
        gates();
        presents();
        hearts();
        pulls();
        hours();
        rain();
        plans();
        books();
        far();
        please();
        sayings();
        seenAndNeeded();
        pulled();
        mend();
        order();
        share();
        later();
        envy();
        smile();
        planned();
        undo();
        image();
        looks();
        Check.finish("PromisesTest");
    }

    private static LockWives canal(String part, int n) {
        Check.part(part);
        LockWives x = new LockWives();
        Check.due("canal", x.canal(n), true);
        return x;
    }

    private static void newObject() {
        Check.part("promise 1");
        LockWives x = new LockWives();
        Check.due("n", x.look(0), 4);
        Check.due("boats", x.look(1), 0);
        for (int pool = 0; pool <= 4; pool++) {
            Check.due("depth", x.depth(pool), 100);
        }
        Check.due("depth(5)", x.depth(5), NONE);
        for (int lock = 0; lock < 4; lock++) {
            int[] first = {10, 0, 4, 0, NONE, 0, 0, NONE};
            for (int what = 0; what < first.length; what++) {
                Check.due("at " + what, x.at(lock, what), first[what]);
            }
        }
        Check.due("fault(0)", x.fault(0), 0);
        Check.due("fault(1)", x.fault(1), NONE);
    }

    private static void states() {
        LockWives x = canal("promise 2", 2);
        Check.due("state", x.state(77), 0);
        Check.due("state", x.state(-5), 77);
        Check.due("look(5)", x.look(5), -5);
        Check.due("pull", x.pull(0, 1), 1);
        Check.due("look(9)", x.look(9), 1);
        Check.due("state", x.state(-5), -5);
        Check.due("look(9)", x.look(9), 0);
    }

    private static void canals() {
        LockWives x = canal("promise 3", 9);
        Check.due("depth(9)", x.depth(9), 100);
        Check.due("depth(10)", x.depth(10), NONE);
        x.pool(9, 7);
        x.lock(8, 0, 50);
        x.lock(8, 4, 0);
        x.boat(3, 4, 5);
        x.load(0, 11, 9);
        x.lock(2, 20, 30);
        x.set(2, 3);
        x.said(1, 0, 5);
        x.tell(0, 1, 5);
        x.tell(1, 1, 5);
        x.state(123);
        Check.text(x, 0, "let;");
        Check.text(x, 1, "like 1;like 2;");
        Check.text(x, 2, "wait 1;");
        x.hours(3);
        x.image(true);
        x.feed(0, 0, 0, 0, 0);
        for (int n : new int[] {0, -1, 10, Integer.MAX_VALUE, Integer.MIN_VALUE}) {
            Check.due("canal " + n, x.canal(n), false);
        }
        Check.due("look(1)", x.look(1), 1);
        Check.due("look(9)", x.look(9), 3);
        Check.due("canal(9)", x.canal(9), true);
        int[] looks = {9, 0, 0, 0, 0, 123, 0, 0, 0, 0, 0, 1000};
        for (int what = 0; what < looks.length; what++) {
            Check.due("look " + what, x.look(what), looks[what]);
        }
        Check.due("look(22)", x.look(22), 0);
        Check.due("look(31)", x.look(31), 0);
        Check.due("look(41)", x.look(41), 0);
        Check.due("at(8, 0)", x.at(8, 0), 10);
        Check.due("at(8, 4)", x.at(8, 4), NONE);
        Check.due("boat", x.boat(0, 1, 1), 0);
        Check.due("cargo", x.of(0, 11), 0);
        Check.due("liking", x.at(2, 20), 0);
        Check.due("the tape stays", x.end(20), true);
        Check.due("the tape stays", x.text(2), NONE);
        Check.due("fault", x.fault(0), 1);
        Check.due("canal", x.canal(1), true);
        Check.due("fault stays", x.fault(0), 1);
        Check.due("the image stays", x.image(false), true);
        Check.due("n", x.look(0), 9);
    }

    private static void pools() {
        LockWives x = canal("promise 4", 2);
        Check.due("pool", x.pool(2, 999), true);
        Check.due("pool", x.pool(0, 0), true);
        Check.due("depth", x.depth(2), 999);
        Check.due("depth", x.depth(0), 0);
        Check.due("pool", x.pool(3, 1), false);
        Check.due("pool", x.pool(-1, 1), false);
        Check.due("pool", x.pool(1, -1), false);
        Check.due("pool", x.pool(1, 1000), false);
        Check.due("depth", x.depth(1), 100);
    }

    private static void locks() {
        LockWives x = canal("promise 5", 3);
        x.boat(0, 1, 1);
        int[][] limits = {{0, 1, 50}, {1, 0, 9}, {2, 1, 9}, {3, -99, 99}, {10, -9, 9}, {13, -9, 9}, {20, -99, 99}};
        for (int[] limit : limits) {
            Check.due("least " + limit[0], x.lock(2, limit[0], limit[1]), true);
            Check.due("at " + limit[0], x.at(2, limit[0]), limit[1]);
            Check.due("most " + limit[0], x.lock(2, limit[0], limit[2]), true);
            Check.due("at " + limit[0], x.at(2, limit[0]), limit[2]);
            Check.due("below " + limit[0], x.lock(2, limit[0], limit[1] - 1), false);
            Check.due("above " + limit[0], x.lock(2, limit[0], limit[2] + 1), false);
            Check.due("at " + limit[0], x.at(2, limit[0]), limit[2]);
        }
        Check.due("rival", x.lock(2, 4, 0), true);
        Check.due("rival", x.at(2, 4), 0);
        Check.due("herself", x.lock(2, 4, 2), false);
        Check.due("no such one", x.lock(2, 4, 3), false);
        Check.due("no such one", x.lock(2, 4, -2), false);
        Check.due("rival", x.at(2, 4), 0);
        Check.due("none", x.lock(2, 4, NONE), true);
        Check.due("rival", x.at(2, 4), NONE);
        for (int what : new int[] {-1, 5, 6, 7, 9, 14, 19, 21, 25, Integer.MIN_VALUE, Integer.MAX_VALUE}) {
            Check.due("another what " + what, x.lock(2, what, 1), false);
        }
        Check.due("no lock", x.lock(3, 0, 1), false);
        Check.due("no lock", x.lock(-1, 0, 1), false);
        Check.due("others stay", x.at(1, 0), 10);
        Check.due("others stay", x.at(1, 20), 0);
    }

    private static void boats() {
        LockWives x = canal("promise 6", 2);
        Check.due("boat", x.boat(2, 99, 9), 0);
        Check.due("boat", x.boat(0, 1, 1), 1);
        Check.due("pool", x.boat(3, 1, 1), NONE);
        Check.due("pool", x.boat(-1, 1, 1), NONE);
        Check.due("draught", x.boat(0, 0, 1), NONE);
        Check.due("draught", x.boat(0, 100, 1), NONE);
        Check.due("broad", x.boat(0, 1, 0), NONE);
        Check.due("broad", x.boat(0, 1, 10), NONE);
        for (int i = 2; i < 6; i++) {
            Check.due("boat", x.boat(i % 3, i, i), i);
        }
        Check.due("seventh", x.boat(0, 1, 1), NONE);
        Check.due("boats", x.look(1), 6);
        Check.due("pool", x.of(0, 0), 2);
        Check.due("draught", x.of(0, 1), 99);
        Check.due("broad", x.of(0, 2), 9);
        Check.due("draught", x.of(5, 1), 5);
        Check.due("cargo", x.of(5, 13), 0);
        Check.due("likings", x.at(0, 25), 0);
    }

    private static void loads() {
        LockWives x = canal("promises 7 and 20", 2);
        x.boat(0, 5, 2);
        x.boat(0, 6, 3);
        int[][] limits = {{0, 0, 2}, {1, 1, 99}, {2, 1, 9}, {10, 0, 99}, {13, 0, 99}};
        for (int[] limit : limits) {
            Check.due("least", x.load(1, limit[0], limit[1]), true);
            Check.due("of", x.of(1, limit[0]), limit[1]);
            Check.due("most", x.load(1, limit[0], limit[2]), true);
            Check.due("of", x.of(1, limit[0]), limit[2]);
            Check.due("below", x.load(1, limit[0], limit[1] - 1), false);
            Check.due("above", x.load(1, limit[0], limit[2] + 1), false);
            Check.due("of", x.of(1, limit[0]), limit[2]);
        }
        for (int what : new int[] {-1, 3, 9, 14, 20, Integer.MAX_VALUE, Integer.MIN_VALUE}) {
            Check.due("another what", x.load(1, what, 1), false);
            Check.due("another what", x.of(1, what), NONE);
        }
        Check.due("no boat", x.load(2, 1, 1), false);
        Check.due("no boat", x.load(-1, 1, 1), false);
        Check.due("no boat", x.of(2, 0), NONE);
        Check.due("no boat", x.of(-1, 0), NONE);
        Check.due("others stay", x.of(0, 10), 0);
        Check.due("others stay", x.of(0, 1), 5);
    }

    private static void settings() {
        LockWives x = canal("promise 8", 2);
        int[] most = {1000, 99, 99, 99, 1};
        for (int what = 0; what < 5; what++) {
            Check.due("most", x.set(what, most[what]), true);
            Check.due("look", x.look(20 + what), most[what]);
            Check.due("above", x.set(what, most[what] + 1), false);
            Check.due("below", x.set(what, -1), false);
            Check.due("look", x.look(20 + what), most[what]);
            Check.due("least", x.set(what, 0), true);
            Check.due("look", x.look(20 + what), 0);
        }
        Check.due("another what", x.set(5, 0), false);
        Check.due("another what", x.set(-1, 0), false);
    }

    private static void tapes() {
        LockWives x = canal("promises 9 and 10", 2);
        for (int i = 1; i <= 19; i++) {
            Check.due("feed", x.feed(i, i, i, i, i), 20 * i);
        }
        Check.due("end", x.end(381), false);
        Check.due("end", x.end(-1), false);
        Check.due("end", x.end(380), true);
        Check.due("feed", x.feed(0, 0, 0, 0, 0), 400);
        Check.due("feed", x.feed(0, 0, 0, 0, 0), NONE);
        Check.due("end", x.end(401), false);
        Check.due("end", x.end(381), true);
        Check.due("feed", x.feed(0, 0, 0, 0, 0), NONE);
        Check.due("end", x.end(382), false);
        Check.due("end", x.end(361), true);
        Check.due("feed", x.feed(0, 0, 0, 0, 0), 381);
        Check.due("end", x.end(0), true);
        Check.due("end", x.end(1), false);
        Check.due("empty", x.text(0), 0);
        Check.due("feed", x.feed(-1, -1, -1, -1, -1), 20);
        Check.due("text", x.text(0), NONE);
        Check.due("fault", x.fault(1), 0);
        // of each number the highest byte first: "let;" is 6c 65 74 3b
        Check.due("feed", x.feed(0x6c65743b, 0x20202020, 0x0a0a0a0a, 0x6c65743b, 0x20206c65), 20);
        Check.due("end", x.end(16), true);
        Check.due("text", x.text(0), 2);
    }

    private static void texts() {
        LockWives x = canal("promise 11", 2);
        x.boat(0, 1, 1);
        Check.due("gates", Check.text(x, 0, " let when 1=1 ;\nhold;let"), NONE);
        Check.due("fault at the end", x.fault(1), 24);
        Check.due("gates", Check.text(x, 0, " let when 1=1 ;\nhold;let ; "), 3);
        Check.due("hearts", Check.text(x, 1, "like 1;like 2 when 0=0;"), 2);
        Check.due("plan", Check.text(x, 2, "wait 9;pull 1 9;"), 2);
        Check.due("look(6)", x.look(6), 3);
        Check.due("look(7)", x.look(7), 2);
        Check.due("look(8)", x.look(8), 2);
        Check.faulty(x, 0, "lets;", 1, 0);
        Check.due("emptied by a fault", x.end(1), false);
        for (int which : new int[] {3, -1, Integer.MIN_VALUE}) {
            Check.faulty(x, 0, "lets;", 1, 0);
            Check.due("no such text", x.text(which), NONE);
            Check.due("fault", x.fault(0), 0);
            Check.due("fault", x.fault(1), NONE);
            Check.due("feed", x.feed(0, 0, 0, 0, 0), 20);
            Check.due("no such text", x.text(which), NONE);
            Check.due("emptied by no such text", x.end(1), false);
            Check.due("feed", x.feed(0, 0, 0, 0, 0), 20);
            Check.due("end", x.end(0), true);
            Check.due("look(6)", x.look(6), 3);
            Check.due("look(7)", x.look(7), 2);
            Check.due("look(8)", x.look(8), 2);
        }
        Check.due("16 lines", Check.text(x, 0, Check.repeat("let;", 16)), 16);
        Check.due("30 steps", Check.text(x, 2, Check.repeat("wait 1;", 30)), 30);
        Check.due("emptied", x.end(1), false);
        Check.due("blanks alone", Check.text(x, 1, " \n "), 0);
        Check.due("look(7)", x.look(7), 0);
        x.pull(0, 1);
        Check.due("none", x.text(0), 0);
        Check.due("texts do not forget", x.look(9), 1);
        Check.due("eight open", Check.text(x, 0, "let when not(not(not(not(1=1))))and((((((((1=1))))))));"), 1);
        Check.due("letters and digits together", Check.text(x, 0, "let when 1=1and 2=2or 3=3;"), 1);
        Check.due("long", Check.text(x, 0, Check.repeat(" ", 396) + "let;"), 1);
    }

    private static void faultsOfLaws() {
        LockWives x = canal("promise 12, laws", 2);
        x.boat(0, 1, 1);
        Check.due("fault(2)", x.fault(2), NONE);
        Check.due("fault(-1)", x.fault(-1), NONE);
        Check.text(x, 0, "let;");
        Check.text(x, 1, "like 1;");
        Check.faulty(x, 0, "let", 1, 3);
        Check.faulty(x, 0, "let  ", 1, 5);
        Check.faulty(x, 0, ";", 1, 0);
        Check.faulty(x, 0, "Let;", 1, 0);
        Check.faulty(x, 0, "letX;", 1, 0);
        Check.faulty(x, 0, "let\t;", 1, 3);
        Check.faulty(x, 0, "let when;", 1, 8);
        Check.faulty(x, 0, "let when 1;", 1, 10);
        Check.faulty(x, 0, "let when 1 2=2;", 1, 11);
        Check.faulty(x, 0, "let when 1<2<3;", 1, 12);
        Check.faulty(x, 0, "let when (1)=1;", 1, 11);
        Check.faulty(x, 0, "let when (1=1;", 1, 13);
        Check.faulty(x, 0, "let when 1=1);", 1, 12);
        Check.faulty(x, 0, "let when -1=1;", 1, 9);
        Check.faulty(x, 0, "let when 1=12345;", 1, 11);
        Check.faulty(x, 0, "let when 1/up=1;", 1, 11);
        Check.faulty(x, 0, "let when 1/0=1;", 2, 11);
        Check.faulty(x, 0, "let when 1/0000=;", 2, 11);
        Check.faulty(x, 0, "let when 1/00000=1;", 1, 11);
        Check.faulty(x, 0, "let when 1=1 or;", 1, 15);
        Check.faulty(x, 0, "let when 1=1 and and 1=1;", 1, 17);
        Check.faulty(x, 0, "let when 1=1 not 1=1;", 1, 13);
        Check.faulty(x, 0, "let when 1 = taste;", 1, 13);
        Check.faulty(x, 0, "let when 1! = 1;", 1, 10);
        Check.faulty(x, 0, "like 1;", 1, 0);
        Check.faulty(x, 0, Check.repeat("let;", 16) + "hold when 1/0=1;", 3, 64);
        Check.faulty(x, 0, Check.repeat("let;", 16) + "when", 1, 64);
        Check.faulty(x, 0, Check.repeat("let;", 16) + " ;", 1, 65);
        Check.faulty(x, 0, "let when (not (not (not (not (1=1", 3, 29);
        Check.faulty(x, 0, "let when " + Check.repeat("not ", 8) + "(1=1);", 3, 41);
        Check.faulty(x, 0, "let when not 1=1 and ((((((((1/0=1))))))));", 2, 31);
        Check.faulty(x, 1, "like", 1, 4);
        Check.faulty(x, 1, "like ;", 1, 5);
        Check.faulty(x, 1, "like 1=1;", 1, 6);
        Check.faulty(x, 1, "like (1);", 1, 5);
        Check.faulty(x, 1, "like up;", 1, 5);
        Check.faulty(x, 1, "like draught;", 1, 5);
        Check.faulty(x, 1, "like 1 when two=1;", 1, 12);
        Check.faulty(x, 1, "let;", 1, 0);
        Check.faulty(x, 1, Check.repeat("like 1;", 16) + "like;", 3, 112);
        Check.due("all words", Check.text(x, 0,
            "hold when liking+mood+rival+lock+hour+draught+above+below+up+passes+two=0;"), 1);
        Check.due("fault(0)", x.fault(0), 0);
        Check.due("fault(1)", x.fault(1), NONE);
        Check.due("all words", Check.text(x, 1,
            "like liking+mood+rival+lock+hour-good*amount/9*taste*presents;"), 1);
    }

    private static void faultsOfPlans() {
        LockWives x = canal("promise 12, plans", 2);
        x.boat(0, 1, 1);
        x.boat(0, 1, 1);
        Check.due("plan", Check.text(x, 2,
            "pass 0 up;pass 1 down with 0;give 99 of 3 to 1 by 1;pull 1 9;wait 99;wait 1;pull 0 1;give 1 of 0 to 0 by 0;"), 8);
        Check.faulty(x, 2, "pass", 1, 4);
        Check.faulty(x, 2, "pass 2 up;", 2, 5);
        Check.faulty(x, 2, "pass 2;", 2, 5);
        Check.faulty(x, 2, "pass 0 sideways;", 1, 7);
        Check.faulty(x, 2, "pass 0 up with 2;", 2, 15);
        Check.faulty(x, 2, "pass 0 up with with;", 1, 15);
        Check.faulty(x, 2, "pass 0 up", 1, 9);
        Check.faulty(x, 2, "pass 0 with 1;", 1, 7);
        Check.faulty(x, 2, "give 0 of 0 to 0 by 0;", 2, 5);
        Check.faulty(x, 2, "give 100 of 0 to 0 by 0;", 2, 5);
        Check.faulty(x, 2, "give 1 of 4 to 0 by 0;", 2, 10);
        Check.faulty(x, 2, "give 1 of 3 to 2 by 0;", 2, 15);
        Check.faulty(x, 2, "give 1 of 3 to 1 by 2;", 2, 20);
        Check.faulty(x, 2, "give 1 to 3 of 1 by 2;", 1, 7);
        Check.faulty(x, 2, "pull 2 1;", 2, 5);
        Check.faulty(x, 2, "pull 1 0;", 2, 7);
        Check.faulty(x, 2, "pull 1 10;", 2, 7);
        Check.faulty(x, 2, "pull 1;", 1, 6);
        Check.faulty(x, 2, "wait 0;", 2, 5);
        Check.faulty(x, 2, "wait 100;", 2, 5);
        Check.faulty(x, 2, "wait 10000;", 1, 5);
        Check.faulty(x, 2, "wait 1,", 1, 6);
        Check.faulty(x, 2, "wait 1+1;", 1, 6);
        Check.faulty(x, 2, "let;", 1, 0);
        Check.faulty(x, 2, Check.repeat("wait 1;", 30) + "wait 0;", 3, 210);
        Check.faulty(x, 2, Check.repeat("wait 1;", 30) + "down 0;", 1, 210);
        Check.due("the plan stays", x.planned(0), 0);
        Check.due("the plan stays", x.planned(1), NONE);
        LockWives y = canal("promise 12, no boats", 1);
        Check.faulty(y, 2, "pass 0 up;", 2, 5);
    }

    private static void passings() {
        LockWives x = canal("promise 13", 2);
        x.boat(0, 10, 2);
        x.boat(0, 20, 2);
        x.boat(1, 30, 1);
        x.lock(0, 0, 25);
        Check.due("two", x.pass(1, false, 0), 0);
        Check.due("above", x.depth(0), 75);
        Check.due("below", x.depth(1), 125);
        Check.due("first", x.of(1, 0), 1);
        Check.due("second", x.of(0, 0), 1);
        Check.due("passes", x.at(0, 5), 1);
        Check.due("up", x.pass(2, true, NONE), 0);
        Check.due("above", x.depth(0), 50);
        Check.due("below", x.depth(1), 150);
        Check.due("passes", x.at(0, 5), 2);
        Check.due("down", x.pass(0, false, NONE), 1);
        Check.due("boat", x.of(0, 0), 2);
        Check.due("passes", x.at(1, 5), 1);
        Check.due("undoable", x.look(9), 3);
        Check.due("no water came or went", x.look(11), 300);
    }

    private static void refusals() {
        LockWives x = canal("promise 13, refused", 2);
        x.boat(0, 10, 2);
        x.boat(0, 60, 3);
        x.boat(2, 10, 1);
        Check.due("no boat", x.pass(3, true, NONE), NONE);
        Check.due("no boat", x.pass(-1, true, NONE), NONE);
        Check.due("no lock above", x.pass(0, true, NONE), NONE);
        Check.due("no lock below", x.pass(2, false, NONE), NONE);
        Check.due("itself", x.pass(0, false, 0), NONE);
        Check.due("no mate", x.pass(0, false, 3), NONE);
        Check.due("no mate", x.pass(0, false, -2), NONE);
        Check.due("another pool", x.pass(0, false, 2), NONE);
        Check.due("too broad", x.pass(0, false, 1), -2);
        x.lock(0, 2, 1);
        Check.due("too broad alone", x.pass(0, false, NONE), -2);
        x.lock(0, 2, 9);
        Check.text(x, 0, "hold when draught>50;");
        Check.due("the other one is held", x.pass(0, false, 1), -3);
        Check.due("held", x.pass(1, false, 0), -3);
        Check.text(x, 0, "");
        x.pool(0, 9);
        x.pool(1, 0);
        Check.due("too little", x.pass(0, false, 1), -4);
        x.pool(0, 10);
        x.pool(1, 49);
        Check.due("too shallow for the other one", x.pass(0, false, 1), -5);
        Check.due("too shallow", x.pass(1, false, 0), -5);
        Check.due("nothing is done", x.look(9) + x.look(4) + x.at(0, 5), 0);
        x.pool(1, 50);
        Check.due("just deep enough", x.pass(1, false, 0), 0);
        x.pool(1, 19);
        Check.due("up, too shallow", x.pass(2, true, NONE), -5);
        x.pool(1, 20);
        Check.due("up", x.pass(2, true, NONE), 1);
        Check.due("none left", x.depth(1), 10);
    }

    private static void gates() {
        LockWives x = canal("law of gates", 3);
        x.boat(1, 10, 2);
        x.boat(1, 20, 2);
        x.lock(1, 20, 7);
        x.lock(1, 3, -4);
        x.lock(1, 4, 2);
        x.lock(2, 20, -9);
        x.pool(1, 90);
        x.pool(2, 70);
        x.hours(3);
        String[] so = {"liking=7", "mood=0-1", "rival=0-9", "lock=1", "above=90", "below=70", "hour=3", "draught=10",
            "up=0", "passes=0", "two=0", "not two=1", "2+3*4=14", "20-5-5=10", "7/2*2=6", "0-7/2=0-3",
            "1=1 or 1=2 and 1=2", "not 1=2 and 1=1", "not(1=2 or 1=1)or 1=1", "1<2", "2>1", "8/2/2=2", "7/1=7",
            "2>1 and 1<2 and 3=3"};
        int ofThisLock = 6;
        for (int i = 0; i < so.length; i++) {
            Check.due(so[i], Check.text(x, 0, "let when " + so[i] + ";hold;"), 2);
            Check.due("let when " + so[i], x.far(0, false, 0), i < ofThisLock ? 1 : 2);
            Check.text(x, 0, "hold when " + so[i] + ";let;");
            Check.due("hold when " + so[i], x.far(0, false, 1), -3);
        }
        for (String b : new String[] {"not 1=1", "not not 1=2", "1=1 and 2=1", "1=2 or 2=1", "1<1", "1>1", "2=1", "not(1=1)"}) {
            Check.text(x, 0, "let when " + b + ";hold;");
            Check.due("let when " + b, x.far(0, false, 1), -3);
        }
        int wrapped = 9999 * 9999 * 9999;
        Check.text(x, 0, "hold when 9999*9999*9999" + (wrapped > 0 ? "<0" : ">0") + ";");
        Check.due("ints wrap", x.far(0, false, 0), 2);
        Check.text(x, 0, "let when up=1;hold when two=1;");
        Check.due("two", x.pass(0, false, 1), -3);
        Check.text(x, 0, "hold when two=1 and draught=20 and lock=1;");
        Check.due("two, of the other one", x.pass(0, false, 1), -3);
        Check.due("two, of the first one", x.pass(1, false, 0), -3);
        Check.text(x, 0, "let when up=1;hold when two=1;");
        Check.due("yes without a line", x.pass(0, false, NONE), 1);
        Check.text(x, 0, "hold when lock=1 and not passes=1;");
        Check.due("passes", x.pass(1, false, NONE), 1);
        Check.due("passes", x.pass(1, true, NONE), -3);
        Check.text(x, 0, "let when up=1 and above=70;hold;");
        Check.due("above", x.pass(1, true, NONE), 1);
        Check.text(x, 0, "hold when rival=0;");
        Check.due("no rival", x.pass(1, true, NONE), -3);
        x.lock(0, 4, 2);
        x.lock(2, 21, 6);
        Check.text(x, 0, "let when rival=6;hold;");
        Check.due("her rival's liking of this boat", x.pass(1, true, NONE), 0);
    }

    private static void presents() {
        LockWives x = canal("promise 14", 3);
        x.boat(1, 1, 1);
        x.load(0, 10, 99);
        x.load(0, 12, 5);
        x.lock(0, 10, 9);
        x.lock(0, 4, 2);
        x.lock(1, 12, -3);
        x.lock(1, 4, 2);
        Check.due("held to 99", x.give(0, 0, 20, 0), 99);
        Check.due("liking", x.at(0, 20), 99);
        Check.due("rival", x.at(2, 20), -49);
        Check.due("mood", x.at(0, 3), 1);
        Check.due("presents", x.at(0, 6), 1);
        Check.due("cargo", x.of(0, 10), 79);
        Check.due("again", x.give(0, 0, 79, 0), 99);
        Check.due("liking", x.at(0, 20), 99);
        Check.due("rival", x.at(2, 20), -98);
        Check.due("below 0", x.give(0, 2, 1, 1), -3);
        Check.due("liking", x.at(1, 20), -3);
        Check.due("mood", x.at(1, 3), -1);
        Check.due("rival", x.at(2, 20), -98);
        Check.due("not there", x.give(0, 2, 1, 2), IMPOSSIBLE);
        Check.due("not so much", x.give(0, 2, 5, 1), IMPOSSIBLE);
        Check.due("none", x.give(0, 2, 0, 1), IMPOSSIBLE);
        Check.due("below 0", x.give(0, 2, -1, 1), IMPOSSIBLE);
        Check.due("100", x.give(0, 2, 100, 1), IMPOSSIBLE);
        Check.due("no good", x.give(0, 4, 1, 1), IMPOSSIBLE);
        Check.due("no good", x.give(0, -1, 1, 1), IMPOSSIBLE);
        Check.due("no boat", x.give(1, 2, 1, 1), IMPOSSIBLE);
        Check.due("no lock", x.give(0, 2, 1, -1), IMPOSSIBLE);
        Check.due("nothing is done", x.look(9), 3);
        Check.due("cargo", x.of(0, 12), 4);
        x.boat(1, 1, 1);
        x.load(1, 10, 9);
        Check.due("no good", x.give(0, 4, 1, 1), IMPOSSIBLE);
        x.load(0, 0, 3);
        Check.due("no lock below", x.give(0, 2, 1, 3), IMPOSSIBLE);
        Check.due("0", x.give(0, 2, 4, 2), 0);
        Check.due("mood stays", x.at(2, 3), 0);
        x.lock(0, 3, 99);
        x.load(0, 0, 0);
        x.load(0, 10, 1);
        Check.due("give", x.give(0, 0, 1, 0), 9);
        Check.due("mood held", x.at(0, 3), 99);
        Check.due("liking held", x.at(2, 20), -99);
    }

    private static void hearts() {
        LockWives x = canal("law of hearts", 2);
        x.boat(1, 1, 1);
        x.lock(1, 20, 11);
        x.lock(1, 3, 5);
        x.lock(1, 4, 0);
        x.lock(0, 20, -6);
        x.lock(1, 13, 4);
        x.hours(2);
        String[] e = {"liking", "mood", "rival", "lock", "hour", "good", "amount", "taste", "presents", "0-9999", "7-10/3",
            "9999*9999"};
        int[] d = {11, 3, -6, 1, 2, 3, 8, 4, 0, -99, 4, 99};
        for (int i = 0; i < e.length; i++) {
            x.load(0, 13, 8);
            Check.text(x, 1, "like " + e[i] + ";");
            Check.due(e[i], x.give(0, 3, 8, 1), d[i]);
            Check.due("undo", x.undo(), true);
        }
        Check.text(x, 1, "like 1 when good=2;like 2 when amount>8;like 3 when presents>0;");
        Check.due("no line is so", x.give(0, 3, 7, 1), 28);
        Check.due("third line", x.give(0, 3, 1, 1), 3);
        Check.text(x, 1, "like 1 when good=3 and not presents=1;like 2;");
        x.load(0, 13, 8);
        Check.due("first line", x.give(0, 3, 1, 1), 1);
        Check.due("D by 2 of 1", x.at(0, 20), -6 - 14 - 1);
    }

    private static void pulls() {
        LockWives x = canal("promise 15", 3);
        x.pool(1, 35);
        Check.due("as long as there is", x.pull(1, 9), 3);
        Check.due("above", x.depth(1), 5);
        Check.due("below", x.depth(2), 130);
        Check.due("none flows", x.pull(1, 9), 0);
        Check.due("undoable", x.look(9), 2);
        Check.due("book", x.look(4), 1);
        Check.due("all", x.book(0, 4), 30);
        Check.due("0", x.pull(0, 0), NONE);
        Check.due("10", x.pull(0, 10), NONE);
        Check.due("no lock", x.pull(3, 1), NONE);
        Check.due("no lock", x.pull(-1, 1), NONE);
        x.pool(1, 990);
        x.pool(2, 998);
        x.pool(3, 999);
        Check.due("spills", x.pull(0, 3), 3);
        Check.due("pool", x.depth(0), 70);
        Check.due("pool", x.depth(1), 999);
        Check.due("pool", x.depth(2), 999);
        Check.due("pool", x.depth(3), 999);
        Check.due("sea", x.look(3), 20);
        Check.due("the last lock", x.pull(2, 1), 1);
        Check.due("sea", x.look(3), 30);
        Check.due("passes stay", x.at(2, 5), 0);
    }

    private static void hours() {
        LockWives x = canal("promise 16", 3);
        x.boat(0, 1, 1);
        x.boat(0, 1, 1);
        x.pool(0, 5);
        x.lock(0, 1, 9);
        x.lock(1, 1, 3);
        x.lock(0, 3, -2);
        x.lock(1, 3, 1);
        x.lock(0, 20, 5);
        x.lock(1, 20, 3);
        x.lock(2, 20, 9);
        x.lock(1, 21, -1);
        x.set(4, 1);
        x.set(2, 3);
        x.set(3, 40);
        Check.due("an hour", x.hours(1), 0);
        Check.due("what there is", x.depth(0), 0);
        Check.due("leaks", x.depth(1), 102);
        Check.due("leaks", x.depth(2), 103);
        Check.due("mood", x.at(0, 3), -1);
        Check.due("mood", x.at(1, 3), 0);
        Check.due("gossip", x.at(0, 20), 4);
        Check.due("as it was ahead", x.at(1, 20), 4);
        Check.due("the last one's stays", x.at(2, 20), 9);
        Check.due("gossip", x.at(0, 21), -1);
        Check.due("gossip", x.at(1, 21), 0);
        Check.due("three hours", x.hours(3), 0);
        Check.due("tide", x.depth(3), 140);
        Check.due("sea", x.look(3), -40);
        Check.due("mood", x.at(0, 3), 0);
        Check.due("gossip goes on", x.at(1, 20), 7);
        int[] line = {2, 4, NONE, NONE, 40};
        for (int what = 0; what < 5; what++) {
            Check.due("book " + what, x.book(0, what), line[what]);
        }
        Check.due("HOUR", x.look(2), 4);
        Check.due("0", x.hours(0), NONE);
        Check.due("-1", x.hours(-1), NONE);
        Check.due("101", x.hours(101), NONE);
        x.set(2, 0);
        for (int i = 0; i < 99; i++) {
            x.hours(100);
        }
        Check.due("HOUR", x.look(2), 9904);
        Check.due("beyond", x.hours(96), NONE);
        Check.due("HOUR", x.look(2), 9904);
        Check.due("to the last one", x.hours(95), 0);
        Check.due("HOUR", x.look(2), 9999);
        Check.due("beyond", x.hours(1), NONE);
        Check.text(x, 2, "pull 0 1;wait 1;");
        Check.due("planned", x.planned(1), NONE);
        Check.due("run", x.run(), 1);
        Check.due("in thought on", x.later(200, 0, 3, 0), x.depth(3));
    }

    private static void rain() {
        LockWives x = canal("promise 16, rain", 1);
        x.state(12345);
        x.set(0, 400);
        x.set(1, 20);
        int state = 12345;
        int depth = 100;
        int lines = 0;
        for (int hour = 0; hour < 60; hour++) {
            state = state * 1664525 + 1013904223;
            int rained = Integer.remainderUnsigned(state >>> 8, 1000) < 400 ? 1 : 0;
            Check.due("hour " + hour, x.hours(1), rained);
            Check.due("state", x.look(5), state);
            depth = Math.min(999, depth + 20 * rained);
            Check.due("depth", x.depth(0), depth);
            lines += rained;
            Check.due("lines", x.look(4), lines);
        }
        Check.due("sort", x.book(0, 1), 3);
        Check.due("lock", x.book(0, 2), NONE);
        Check.due("boat", x.book(0, 3), NONE);
        Check.due("shower", x.book(0, 4), 20);
        for (int before = 0; before < 5; before++) {
            int drawn = ((before * 1664525 + 1013904223) >>> 8) % 1000;
            x.set(0, drawn);
            x.state(before);
            Check.due("a draw of RAIN is none", x.hours(1), 0);
            x.set(0, drawn + 1);
            x.state(before);
            Check.due("a draw below RAIN is one", x.hours(1), 1);
        }
        int dry = 0;
        while (((dry * 1664525 + 1013904223) >>> 8) % 1000 != 0) {
            dry++;
        }
        x.set(0, 1);
        x.state(dry);
        Check.due("the least rain", x.hours(1), 1);
        x.canal(1);
        x.set(0, 1000);
        Check.due("rain of 0 is rain", x.hours(5), 5);
        Check.due("lines", x.look(4), 5);
        x.set(0, 0);
        state = x.look(5);
        Check.due("no rain", x.hours(1), 0);
        Check.due("no draw", x.look(5), state);
        x.set(0, 1000);
        x.set(1, 99);
        x.pool(0, 990);
        x.pool(1, 990);
        x.hours(1);
        Check.due("spills", x.look(3), 81);
    }

    private static void plans() {
        LockWives x = canal("promise 17", 2);
        x.boat(0, 1, 1);
        x.load(0, 13, 9);
        x.lock(0, 13, 2);
        Check.due("no plan", x.run(), 0);
        Check.text(x, 2, "give 4 of 3 to 0 by 0; pull 0 2; pull 1 1; pass 0 down; wait 12; pass 0 down; pass 0 down; wait 1;");
        Check.due("till one is refused", x.run(), 6);
        Check.due("liking", x.at(0, 20), 8);
        Check.due("boat", x.of(0, 0), 2);
        Check.due("HOUR", x.look(2), 12);
        Check.due("10 are kept", x.look(9), 10);
        Check.due("book", x.look(4), 5);
        Check.due("first step is refused", x.run(), 0);
        x.pool(0, 0);
        Check.text(x, 2, "pull 0 9;wait 1;");
        Check.due("a pull without water is no refusal", x.run(), 2);
        x.boat(1, 1, 1);
        x.load(1, 12, 7);
        Check.text(x, 2, "give 3 of 2 to 1 by 1;pull 1 2;");
        Check.due("give", x.run(), 2);
        Check.due("presents", x.at(1, 6), 1);
        Check.due("cargo", x.of(1, 12), 4);
        Check.text(x, 2, "pass 0 up with 0;");
        Check.due("with itself", x.run(), 0);
        Check.due("with itself", x.planned(1), NONE);
    }

    private static void books() {
        LockWives x = canal("promise 21", 2);
        x.boat(0, 1, 1);
        x.boat(0, 1, 1);
        x.load(1, 10, 3);
        x.hours(7);
        x.pass(1, false, 0);
        x.give(1, 0, 3, 1);
        x.pull(1, 2);
        int[][] lines = {{7, 0, 0, 1, 10}, {7, 1, 1, 1, 3}, {7, 2, 1, NONE, 20}};
        for (int i = 0; i < lines.length; i++) {
            for (int what = 0; what < 5; what++) {
                Check.due("book " + i + " " + what, x.book(i, what), lines[i][what]);
            }
        }
        Check.due("no line", x.book(3, 0), NONE);
        Check.due("no line", x.book(-1, 0), NONE);
        Check.due("another what", x.book(0, 5), NONE);
        Check.due("another what", x.book(0, -1), NONE);
        x.set(2, 1);
        x.hours(100);
        x.hours(46);
        Check.due("149", x.look(4), 149);
        x.hours(2);
        Check.due("150", x.look(4), 150);
        Check.due("last", x.book(149, 0), 153);
        x.pull(0, 1);
        Check.due("no more", x.look(4), 150);
        Check.due("no more", x.smile(1), 0);
        Check.due("undo", x.undo(), true);
        Check.due("150", x.look(4), 150);
        x.undo();
        Check.due("150", x.look(4), 150);
        x.undo();
        Check.due("149", x.look(4), 149);
    }

    private static void far() {
        LockWives x = canal("promise 22", 4);
        x.boat(0, 30, 2);
        Check.due("all", x.far(0, false, 0), 4);
        Check.due("the end", x.far(0, false, 1), NONE);
        Check.due("none", x.far(0, true, 0), 0);
        Check.due("the end", x.far(0, true, 1), NONE);
        x.lock(3, 2, 1);
        Check.due("broad", x.far(0, false, 0), 3);
        Check.due("broad", x.far(0, false, 1), -2);
        Check.text(x, 0, "hold when lock=2;");
        Check.due("held", x.far(0, false, 0), 2);
        Check.due("held", x.far(0, false, 1), -3);
        x.pool(1, 0);
        x.lock(1, 0, 11);
        x.lock(0, 0, 30);
        Check.due("what it brings along", x.far(0, false, 0), 2);
        x.lock(1, 0, 31);
        Check.due("water", x.far(0, false, 0), 1);
        Check.due("water", x.far(0, false, 1), -4);
        x.lock(0, 0, 29);
        Check.due("draught", x.far(0, false, 0), 0);
        Check.due("draught", x.far(0, false, 1), -5);
        Check.due("another what", x.far(0, false, 2), IMPOSSIBLE);
        Check.due("another what", x.far(0, false, -1), IMPOSSIBLE);
        Check.due("no boat", x.far(1, false, 0), IMPOSSIBLE);
        Check.due("no boat", x.far(-1, false, 0), IMPOSSIBLE);
        Check.due("in thought", x.of(0, 0) + x.look(4) + x.look(9) + x.at(0, 5), 0);
        Check.due("in thought", x.depth(0), 100);
    }

    private static void please() {
        LockWives x = canal("promise 23", 3);
        x.boat(3, 1, 1);
        x.load(0, 11, 9);
        Check.text(x, 0, "let when liking>5;hold;");
        Check.text(x, 1, "like amount*3;");
        Check.due("six", x.please(0, 1, 0, 0), 6);
        x.lock(1, 20, -1);
        Check.due("seven", x.please(0, 1, 0, 0), NONE);
        x.lock(1, 20, 0);
        Check.due("six", x.please(0, 1, 0, 0), 6);
        x.lock(1, 20, 6);
        Check.due("two and two", x.please(0, 1, 0, 0), 4);
        Check.due("lock 2", x.please(0, 1, 0, 12), 2);
        Check.due("lock 1", x.please(0, 1, 0, 11), 0);
        Check.due("lock 0", x.please(0, 1, 0, 10), 2);
        Check.due("only so far", x.please(0, 1, 2, 0), 2);
        Check.due("a lock not on its way", x.please(0, 1, 2, 10), 0);
        Check.due("there already", x.please(0, 1, 3, 0), 0);
        x.load(0, 11, 3);
        Check.due("not so much", x.please(0, 1, 0, 0), NONE);
        Check.due("not so much", x.please(0, 1, 0, 12), NONE);
        x.load(0, 11, 4);
        Check.due("just so much", x.please(0, 1, 0, 0), 4);
        // she who is pleased more makes her rival like the boat less
        x.load(0, 11, 9);
        x.lock(2, 4, 1);
        Check.due("rival", x.please(0, 1, 0, 0), 5);
        Check.due("rival", x.please(0, 1, 0, 11), 1);
        // of several ways the first on the way: lock 2 takes none, lock 1 all
        Check.text(x, 0, "hold when lock=0 and liking<1;");
        Check.text(x, 1, "like amount;");
        x.lock(2, 4, NONE);
        Check.due("one", x.please(0, 1, 0, 0), 1);
        Check.due("lock 0", x.please(0, 1, 0, 10), 1);
        Check.text(x, 0, "hold when lock=1 and liking+rival<3;");
        x.lock(1, 20, 0);
        x.lock(1, 4, 2);
        Check.due("three", x.please(0, 1, 0, 0), 3);
        Check.due("her rival's liking falls by what she gets", x.please(0, 1, 0, 12), 2);
        Check.due("her rival's liking falls by what she gets", x.please(0, 1, 0, 11), 1);
        Check.text(x, 0, "hold when lock=1 and liking+rival<1;");
        Check.due("one", x.please(0, 1, 0, 0), 1);
        Check.due("the first gets none", x.please(0, 1, 0, 12), 0);
        Check.due("the next all", x.please(0, 1, 0, 11), 1);
        Check.due("another what", x.please(0, 1, 0, 13), NONE);
        Check.due("another what", x.please(0, 1, 0, 1), NONE);
        Check.due("another what", x.please(0, 1, 0, 9), NONE);
        Check.due("no boat", x.please(1, 1, 0, 0), NONE);
        Check.text(x, 0, "");
        Check.due("good", x.please(0, 0, 0, 0), 0);
        Check.due("good", x.please(0, 3, 0, 0), 0);
        Check.due("no good", x.please(0, 4, 0, 0), NONE);
        Check.due("no good", x.please(0, -1, 0, 0), NONE);
        Check.due("no pool", x.please(0, 1, 4, 0), NONE);
        Check.due("no pool", x.please(0, 1, -1, 0), NONE);
        Check.due("in thought", x.of(0, 11), 9);
        Check.due("in thought", x.at(1, 20) + x.at(1, 6) + x.look(4), 0);
    }

    private static void sayings() {
        LockWives x = canal("promises 24 and 25", 2);
        Check.due("least", x.range(1, 0), 0);
        Check.due("greatest", x.range(1, 1), 300);
        Check.due("no pool", x.range(3, 0), NONE);
        Check.due("no pool", x.range(-1, 0), NONE);
        Check.due("another what", x.range(1, 2), NONE);
        Check.due("another what", x.range(1, -1), NONE);
        Check.due("said", x.said(0, 1, 40), 1);
        Check.due("said", x.said(2, 1, 50), 2);
        Check.due("least", x.range(1, 0), 210);
        Check.due("greatest", x.range(1, 1), 300);
        Check.due("said", x.said(2, 0, 20), 3);
        Check.due("greatest", x.range(1, 1), 280);
        Check.due("least", x.range(2, 0), 20);
        Check.due("greatest", x.range(2, 1), 50);
        Check.due("least", x.range(0, 0), 0);
        Check.due("greatest", x.range(0, 1), 40);
        Check.due("said", x.said(1, 1, 210), 4);
        Check.due("just one way", x.range(1, 0), 210);
        Check.due("just one way", x.range(2, 0), 50);
        Check.due("said", x.said(1, 1, 209), 5);
        Check.due("can't be", x.range(1, 0), NONE);
        Check.due("can't be", x.range(0, 1), NONE);
        Check.due("no pool", x.said(3, 0, 1), NONE);
        Check.due("no pool", x.said(-2, 0, 1), NONE);
        Check.due("no how", x.said(0, 2, 1), NONE);
        Check.due("no how", x.said(0, -1, 1), NONE);
        Check.due("too deep", x.said(0, 0, 1000), NONE);
        Check.due("below 0", x.said(0, 0, -1), NONE);
        Check.due("sayings", x.look(10), 5);
        for (int i = 6; i <= 12; i++) {
            Check.due("said", x.said(0, 0, 0), i);
        }
        Check.due("thirteenth", x.said(0, 0, 0), NONE);
        Check.due("forgotten", x.said(NONE, 7, -7), 0);
        Check.due("sayings", x.look(10), 0);
        Check.due("greatest", x.range(1, 1), 300);
        x.pool(0, 999);
        x.pool(1, 999);
        Check.due("least", x.range(2, 0), 100);
        Check.due("999 at most", x.range(2, 1), 999);
        x.said(0, 0, 10);
        x.said(0, 1, 9);
        Check.due("at odds", x.range(1, 0), NONE);
        x.said(NONE, 0, 0);
        x.said(0, 0, 999);
        x.said(1, 0, 999);
        x.said(2, 0, 101);
        Check.due("more than there is", x.range(2, 1), NONE);
        x.pool(2, 101);
        Check.due("just what there is", x.range(2, 1), 101);
        x.canal(1);
        x.said(0, 0, 70);
        Check.due("greatest of its own", x.range(0, 1), 200);
        Check.due("greatest of the other", x.range(1, 1), 130);
    }

    private static void seenAndNeeded() {
        LockWives x = canal("promise 26", 2);
        x.pull(0, 1);
        Check.due("seen", x.tell(0, 2, 999), true);
        Check.due("need", x.tell(1, 2, 998), true);
        Check.due("look", x.look(32), 999);
        Check.due("look", x.look(42), 998);
        Check.due("no pool", x.tell(0, 3, 1), false);
        Check.due("no pool", x.tell(1, -1, 1), false);
        Check.due("too deep", x.tell(1, 2, 1000), false);
        Check.due("below 0", x.tell(0, 2, -1), false);
        Check.due("another what", x.tell(2, 2, 1), false);
        Check.due("another what", x.tell(-1, 2, 1), false);
        Check.due("look", x.look(32), 999);
        Check.due("look", x.look(42), 998);
        Check.due("do not forget", x.look(9), 1);
        x.said(0, 0, 0);
        Check.due("do not forget", x.look(9), 1);
    }

    private static void pulled() {
        LockWives x = canal("promise 27", 3);
        for (int pool = 0; pool <= 3; pool++) {
            x.tell(0, pool, 100);
        }
        Check.due("nobody", x.pulled(0), 0);
        Check.due("nobody", x.pulled(1), NONE);
        Check.due("nobody", x.pulled(2), NONE);
        x.tell(0, 1, 300);
        x.tell(0, 2, 900);
        x.pool(1, 100);
        x.pool(2, 999);
        x.pool(3, 201);
        Check.due("spilling", x.pulled(0), 1);
        Check.due("lock", x.pulled(1), 1);
        Check.due("20 times", x.pulled(2), 20);
        Check.due("another what", x.pulled(3), NONE);
        Check.due("another what", x.pulled(-1), NONE);
        x.tell(0, 3, 101);
        Check.due("but for the last pool", x.pulled(0), 0);
        x.tell(0, 3, 100);
        x.tell(0, 0, 101);
        Check.due("but for the first pool", x.pulled(0), 0);
        x.tell(0, 0, 100);
        Check.due("once more", x.pulled(0), 1);
        x.tell(0, 1, 310);
        x.tell(0, 2, 890);
        Check.due("not 21 times", x.pulled(0), 0);
        x.tell(0, 1, 109);
        x.pool(1, 0);
        Check.due("never by parts", x.pulled(0), 0);
        x.canal(1);
        x.tell(0, 0, 5);
        x.tell(0, 1, 100);
        x.pool(0, 0);
        x.pool(1, 105);
        x.lock(0, 0, 5);
        Check.due("the last of it", x.pulled(2), 1);
        x.lock(0, 0, 6);
        Check.due("FILL is not there", x.pulled(0), 0);
    }

    private static void mend() {
        LockWives x = canal("promise 28", 3);
        x.lock(0, 0, 7);
        x.lock(2, 0, 15);
        Check.due("none", x.mend(0), 0);
        x.lock(2, 0, 1);
        x.tell(1, 3, 103);
        Check.due("one by one", x.mend(12), 3);
        x.lock(2, 0, 15);
        x.tell(1, 3, 101);
        x.tell(1, 2, 100);
        x.tell(1, 1, 90);
        Check.due("all", x.mend(0), 1 + 2 + 2);
        Check.due("lock 2", x.mend(12), 1);
        Check.due("lock 1", x.mend(11), 2);
        Check.due("lock 0", x.mend(10), 2);
        x.tell(1, 0, 86);
        Check.due("just enough", x.mend(0), 5);
        x.tell(1, 0, 87);
        Check.due("not enough", x.mend(0), NONE);
        Check.due("not enough", x.mend(11), NONE);
        x.tell(1, 0, 0);
        Check.due("another what", x.mend(13), NONE);
        Check.due("another what", x.mend(1), NONE);
        Check.due("another what", x.mend(-1), NONE);
        x.pool(2, 0);
        Check.due("not enough above", x.mend(0), NONE);
        x.pool(0, 900);
        x.tell(1, 1, 999);
        Check.due("not enough", x.mend(12), NONE);
        Check.due("not enough", x.mend(10), NONE);
        x.pool(0, 999);
        x.tell(1, 1, 950);
        Check.due("far more", x.mend(12), 1);
        Check.due("far more", x.mend(11), 12);
        Check.due("far more", x.mend(10), (950 + 120 - 100 + 6) / 7);
        x.pool(1, 999);
        Check.due("far more", x.mend(10), (950 + 120 - 999 + 6) / 7);
    }

    private static void order() {
        LockWives x = canal("promise 29", 2);
        x.boat(1, 95, 1);
        x.boat(0, 5, 1);
        x.boat(1, 5, 1);
        x.pool(1, 104);
        x.lock(1, 0, 10);
        Check.due("alone", x.order(1, true, 0), 0);
        Check.due("all down", x.order(7, false, 0), 4);
        Check.due("all down", x.order(7, false, 10), 0);
        Check.due("all down", x.order(7, false, 12), 2);
        // the deep boat gets up only ahead of what lets water out above it
        x.pool(0, 105);
        Check.due("the deep one first", x.order(5, true, 0), 2);
        Check.due("the deep one first", x.order(5, true, 10), 0);
        x.load(0, 1, 5);
        x.load(2, 1, 95);
        Check.due("the deep one first", x.order(5, true, 0), 2);
        Check.due("the deep one first", x.order(5, true, 10), 2);
        Check.due("the other one then", x.order(5, true, 11), 0);
        Check.due("no third", x.order(5, true, 12), NONE);
        Check.due("another what", x.order(5, true, 1), NONE);
        Check.due("another what", x.order(5, true, 9), NONE);
        Check.due("none", x.order(0, true, 0), NONE);
        Check.due("no such boat", x.order(8, true, 0), NONE);
        Check.due("no such boat", x.order(-1, true, 0), NONE);
        x.boat(0, 5, 1);
        x.boat(0, 5, 1);
        x.boat(0, 5, 1);
        Check.due("five", x.order(62, false, 0), 9);
        Check.due("five", x.order(62, false, 14), 5);
        Check.due("six", x.order(63, false, 0), NONE);
        Check.due("no such boat", x.order(64, false, 0), NONE);
        Check.text(x, 0, "hold when passes>0;");
        Check.due("one of each", x.order(62, false, 0), 2);
        Check.due("one of each", x.order(62, false, 10), 1);
        Check.due("in thought", x.look(9) + x.look(4) + x.at(0, 5), 0);
    }

    private static void share() {
        LockWives x = canal("promise 30", 2);
        int[] broad = {1, 2, 3, 4, 2, 1};
        for (int b : broad) {
            x.boat(1, 9, b);
        }
        x.lock(0, 2, 4);
        x.lock(1, 2, 5);
        Check.due("up", x.share(63, true), 4);
        Check.due("down", x.share(63, false), 3);
        Check.due("two threes", x.share(0b000110, true), 2);
        Check.due("two twos", x.share(0b010010, true), 1);
        Check.due("neighbours", x.share(0b000011, true), 1);
        Check.due("the last two", x.share(0b110000, true), 1);
        Check.due("one", x.share(8, true), 1);
        x.lock(0, 2, 3);
        Check.due("too broad", x.share(8, true), NONE);
        Check.due("too broad", x.share(9, true), NONE);
        Check.due("none", x.share(0, true), NONE);
        Check.due("no such boat", x.share(64, true), NONE);
        Check.due("no such boat", x.share(-1, true), NONE);
        x.pool(1, 0);
        Check.text(x, 0, "hold;");
        Check.due("nothing else asked", x.share(63, false), 3);
        x.load(0, 0, 0);
        x.lock(0, 2, 9);
        Check.due("unlike pools", x.share(63, false), NONE);
        Check.due("unlike pools", x.share(3, false), NONE);
        Check.due("none", x.share(0, false), NONE);
        Check.due("no such boat", x.share(64, false), NONE);
        Check.due("no such boat", x.share(65, false), NONE);
        Check.due("no such boat", x.share(-1, false), NONE);
        Check.due("no lock", x.share(1, true), NONE);
        Check.due("down", x.share(1, false), 1);
        x.load(0, 0, 2);
        Check.due("no lock", x.share(1, false), NONE);
    }

    private static void later() {
        LockWives x = canal("promise 31", 2);
        x.boat(0, 1, 1);
        x.lock(0, 1, 9);
        x.lock(0, 3, -50);
        x.lock(0, 20, -99);
        x.lock(1, 20, 99);
        x.set(0, 1000);
        x.set(1, 99);
        x.set(2, 60);
        x.set(3, 1);
        x.set(4, 1);
        Check.due("now", x.later(0, 0, 0, 0), 100);
        Check.due("no rain", x.later(11, 0, 0, 0), 1);
        Check.due("no rain", x.later(12, 0, 0, 0), 0);
        Check.due("leaks", x.later(200, 0, 1, 0), 200);
        Check.due("tides", x.later(200, 0, 2, 0), 103);
        Check.due("tides", x.later(59, 0, 2, 0), 100);
        Check.due("mood", x.later(49, 1, 0, 9), -1);
        Check.due("mood", x.later(51, 1, 0, -9), 0);
        Check.due("liking", x.later(197, 2, 0, 0), 98);
        Check.due("liking", x.later(200, 2, 0, 0), 99);
        Check.due("hours", x.later(201, 0, 0, 0), IMPOSSIBLE);
        Check.due("hours", x.later(-1, 0, 0, 0), IMPOSSIBLE);
        Check.due("pool", x.later(1, 0, 3, 0), IMPOSSIBLE);
        Check.due("lock", x.later(1, 1, 2, 0), IMPOSSIBLE);
        Check.due("boat", x.later(1, 2, 0, 1), IMPOSSIBLE);
        Check.due("boat", x.later(1, 2, 0, -1), IMPOSSIBLE);
        Check.due("another what", x.later(1, 3, 0, 0), IMPOSSIBLE);
        Check.due("another what", x.later(1, -1, 0, 0), IMPOSSIBLE);
        Check.due("in thought", x.look(2) + x.look(4) + x.look(5) + x.look(9), 0);
    }

    private static void envy() {
        LockWives x = canal("promises 19 and 32", 3);
        x.lock(0, 4, 1);
        Check.due("no boats", x.envy(), 0);
        Check.due("no boats", x.at(0, 7), NONE);
        x.boat(0, 1, 1);
        x.boat(0, 1, 1);
        x.boat(0, 1, 1);
        x.lock(0, 21, 5);
        x.lock(0, 22, 5);
        Check.due("of several the least", x.at(0, 7), 1);
        Check.due("of several the least", x.at(1, 7), 0);
        Check.due("nobody", x.envy(), 0);
        x.lock(1, 21, 5);
        Check.due("as much is not more", x.envy(), 0);
        x.lock(1, 21, 6);
        Check.due("lock 0", x.envy(), 1);
        x.lock(2, 4, 0);
        x.lock(2, 20, -1);
        x.lock(2, 21, -1);
        x.lock(2, 22, -1);
        Check.due("favourite", x.at(2, 7), 0);
        Check.due("locks 0 and 2", x.envy(), 5);
        x.lock(0, 4, NONE);
        Check.due("lock 2", x.envy(), 4);
        Check.due("no lock", x.at(3, 0), IMPOSSIBLE);
        Check.due("no lock", x.at(-1, 0), IMPOSSIBLE);
        for (int what : new int[] {-1, 8, 9, 14, 19, 23, Integer.MAX_VALUE}) {
            Check.due("another what", x.at(0, what), IMPOSSIBLE);
        }
        Check.due("liking", x.at(0, 22), 5);
    }

    private static void smile() {
        LockWives x = canal("promise 33", 2);
        x.boat(0, 1, 1);
        x.load(0, 10, 9);
        x.pool(1, 999);
        Check.due("none yet", x.smile(1), NONE);
        x.pull(0, 1);
        Check.due("pull", x.smile(1), 0);
        Check.due("not by spilling", x.smile(2), NONE);
        x.give(0, 0, 1, 0);
        Check.due("not by a present", x.smile(1), 0);
        x.pass(0, false, NONE);
        Check.due("passing", x.smile(1), 2);
        x.pass(0, true, NONE);
        Check.due("upwards too", x.smile(1), 3);
        x.set(0, 1000);
        x.set(2, 1);
        x.lock(1, 1, 3);
        x.hours(1);
        Check.due("rain of 0", x.smile(0), 4);
        Check.due("tide of 0", x.smile(2), 5);
        Check.due("passing", x.smile(1), 3);
        x.pull(1, 1);
        Check.due("pull", x.smile(2), 6);
        x.pool(1, 0);
        x.pull(1, 1);
        Check.due("none flowed", x.smile(2), 6);
        Check.due("no pool", x.smile(3), NONE);
        Check.due("no pool", x.smile(-1), NONE);
    }

    private static void planned() {
        LockWives x = canal("promise 34", 2);
        x.boat(0, 1, 3);
        x.boat(0, 1, 3);
        x.load(0, 10, 9);
        x.set(0, 1000);
        x.set(1, 50);
        for (int what = 0; what < 4; what++) {
            Check.due("no plan", x.planned(what), 0);
        }
        Check.text(x, 2, "give 2 of 0 to 0 by 0;give 3 of 0 to 0 by 0;pass 0 down;wait 9;pull 0 9;pull 0 9;pull 1 1;");
        Check.due("steps", x.planned(0), 7);
        Check.due("none", x.planned(1), 0);
        Check.due("fills, without rain", x.planned(2), 1 + 9 + 0 + 1);
        Check.due("goods", x.planned(3), 5);
        Check.due("another what", x.planned(4), IMPOSSIBLE);
        Check.due("another what", x.planned(-1), IMPOSSIBLE);
        Check.due("in thought", x.look(2) + x.look(4) + x.look(5) + x.look(9), 0);
        String[] plan = {"pass 0 up;", "pass 0 down with 1;", "pass 0 down;", "give 1 of 1 to 0 by 0;", "give 9 of 0 to 1 by 0;"};
        int[] why = {NONE, -2, -3, NONE, NONE};
        Check.text(x, 0, "hold;");
        for (int i = 0; i < plan.length; i++) {
            Check.text(x, 2, plan[i]);
            Check.due(plan[i], x.planned(0), 0);
            Check.due(plan[i], x.planned(1), why[i]);
            Check.due(plan[i], x.planned(2) + x.planned(3), 0);
        }
        Check.text(x, 0, "");
        Check.text(x, 2, "pull 0 9;pull 0 1;pass 0 down;wait 1;");
        Check.due("water", x.planned(1), -4);
        Check.due("steps", x.planned(0), 2);
        Check.due("fills", x.planned(2), 10);
        x.load(0, 1, 99);
        x.pool(1, 80);
        Check.text(x, 2, "pass 0 down;");
        Check.due("draught", x.planned(1), -5);
    }

    private static void undo() {
        LockWives x = canal("promise 35", 2);
        Check.due("nothing", x.undo(), false);
        x.boat(0, 1, 1);
        x.load(0, 10, 50);
        x.lock(0, 10, 5);
        x.lock(0, 4, 1);
        x.set(0, 1000);
        x.set(1, 9);
        x.set(2, 1);
        x.set(3, 950);
        x.set(3, 90);
        x.pool(2, 950);
        x.state(3);
        x.pass(0, false, NONE);
        x.give(0, 0, 5, 0);
        x.hours(1);
        Check.due("sea", x.look(3), -49);
        Check.due("three", x.look(9), 3);
        Check.text(x, 0, "hold;");
        x.tell(0, 0, 9);
        Check.due("refused", x.pass(0, true, NONE), -3);
        Check.due("refused", x.pool(0, 1000), false);
        x.image(true);
        Check.due("three", x.look(9), 3);
        Check.due("the hour", x.undo(), true);
        Check.due("HOUR", x.look(2), 0);
        Check.due("state", x.look(5), 3);
        Check.due("sea", x.look(3), 0);
        Check.due("lines", x.look(4), 2);
        Check.due("depth", x.depth(2), 950);
        Check.due("mood", x.at(0, 3), 1);
        Check.due("the present", x.undo(), true);
        Check.due("liking", x.at(0, 20), 0);
        Check.due("rival", x.at(1, 20), 0);
        Check.due("presents", x.at(0, 6), 0);
        Check.due("cargo", x.of(0, 10), 50);
        Check.due("the passing", x.undo(), true);
        Check.due("boat", x.of(0, 0), 0);
        Check.due("passes", x.at(0, 5), 0);
        Check.due("depth", x.depth(0), 100);
        Check.due("texts stay", x.look(6), 1);
        Check.due("what was seen stays", x.look(30), 9);
        Check.due("nothing more", x.undo(), false);
        for (int i = 0; i < 12; i++) {
            x.pull(0, 1);
        }
        Check.due("ten", x.look(9), 10);
        for (int i = 0; i < 10; i++) {
            Check.due("undo", x.undo(), true);
        }
        Check.due("not the first two", x.undo(), false);
        Check.due("depth", x.depth(0), 80);
        forgetting(x);
    }

    private static void forgetting(LockWives x) {
        for (int i = 0; i < 8; i++) {
            x.pull(0, 1);
            boolean told;
            switch (i) {
                case 0: told = x.pool(0, 100); break;
                case 1: told = x.lock(0, 1, 0); break;
                case 2: told = x.boat(0, 1, 1) >= 0; break;
                case 3: told = x.load(0, 1, 1); break;
                case 4: told = x.set(4, 0); break;
                case 5: told = x.state(1) != 1; break;
                case 6: told = x.image(true) && x.image(false); break;
                default: told = x.canal(2); break;
            }
            Check.due("told " + i, told, true);
            Check.due("forgotten " + i, x.look(9), 0);
        }
        x.pull(0, 1);
        Check.due("feed", x.feed(0, 0, 0, 0, 0), 20);
        Check.due("end", x.end(0), true);
        Check.due("said", x.said(0, 0, 0), 1);
        Check.due("need", x.tell(1, 0, 0), true);
        Check.due("text", x.text(1), 0);
        Check.due("not forgotten", x.look(9), 1);
    }

    private static void image() {
        LockWives x = canal("promise 36", 3);
        Check.due("none", x.image(false), false);
        x.boat(1, 2, 3);
        x.load(0, 12, 8);
        x.lock(1, 0, 20);
        x.lock(1, 4, 2);
        x.lock(1, 12, 3);
        x.set(0, 1000);
        x.state(9);
        Check.text(x, 0, "hold when lock=0;");
        Check.text(x, 1, "like 7;");
        Check.text(x, 2, "wait 3;pull 0 1;");
        x.said(0, 1, 5);
        x.tell(0, 3, 33);
        x.tell(1, 3, 44);
        x.give(0, 2, 1, 1);
        x.run();
        int[] looks = new int[50];
        for (int what = 0; what < 50; what++) {
            looks[what] = x.look(what);
        }
        looks[9] = 0;
        Check.due("taken", x.image(true), true);
        for (int round = 0; round < 2; round++) {
            x.canal(1 + round);
            x.boat(0, 1, 1);
            Check.text(x, 0, "let;let;let;");
            Check.text(x, 1, "like 1;like 2;");
            Check.text(x, 2, "pull 0 1;");
            x.state(1);
            for (int i = 0; i < 5; i++) {
                x.pull(0, 1);
            }
            x.said(0, 0, 1);
            x.feed(0x6c65743b, 0, 0, 0, 0);
            x.end(4);
            Check.due("gone back to", x.image(false), true);
            for (int what = 0; what < 50; what++) {
                Check.due("look " + what, x.look(what), looks[what]);
            }
            Check.due("book", x.book(0, 1), 1);
            Check.due("book", x.book(3, 1), 3);
            Check.due("fill", x.at(1, 0), 20);
            Check.due("rival", x.at(1, 4), 2);
            Check.due("liking", x.at(1, 20), 7);
            Check.due("cargo", x.of(0, 12), 7);
            Check.due("the law", x.pass(0, true, NONE), -3);
            Check.due("hearts", x.give(0, 2, 1, 0), 7);
            Check.due("range", x.range(0, 1), 5);
            Check.due("plan", x.run(), 2);
            Check.due("the tape stays", x.end(5), false);
            Check.due("the tape stays", x.text(0), 1);
        }
        x.image(true);
        Check.due("taken anew", x.image(false), true);
        Check.due("gates", x.look(6), 1);
        Check.due("liking", x.at(0, 20), 7);
    }

    private static void looks() {
        LockWives x = canal("promise 37", 9);
        int none = NONE - 99999;
        for (int what : new int[] {-1, 12, 19, 25, 29, 50, Integer.MIN_VALUE, Integer.MAX_VALUE}) {
            Check.due("another what", x.look(what), none);
        }
        x.tell(0, 9, 5);
        x.tell(1, 0, 6);
        Check.due("seen", x.look(39), 5);
        Check.due("need", x.look(40), 6);
        Check.due("need", x.look(49), 0);
        x.pool(4, 0);
        Check.due("all depths", x.look(11), 900);
        x.canal(1);
        Check.due("seen", x.look(31), 0);
        Check.due("seen", x.look(32), none);
        Check.due("need", x.look(42), none);
        Check.due("all depths", x.look(11), 200);
        x.pull(0, 3);
        x.hours(2);
        Check.due("hour", x.look(2), 2);
        Check.due("book", x.look(4), 1);
        Check.due("undoable", x.look(9), 3);
        x.pool(1, 995);
        x.pull(0, 1);
        Check.due("sea", x.look(3), 6);
        x.set(2, 1);
        x.set(3, 99);
        x.pool(1, 0);
        x.hours(1);
        Check.due("sea below 0", x.look(3), -93);
        Check.due("state", x.state(Integer.MIN_VALUE), 0);
        Check.due("state", x.look(5), Integer.MIN_VALUE);
    }
}
