import java.util.Random;

/** Runs of drawn calls, each answer compared with the mirror's; the draws are always the same. */
public final class MirrorTest {
    private static final int RUNS = Integer.getInteger("runs", 1500);
    private static final int CALLS = 512;
    private static final String[] WORDS = {"let", "hold", "like", "when", "or", "and", "not", "liking", "mood", "rival", "lock",
        "hour", "draught", "above", "below", "up", "passes", "two", "good", "amount", "taste", "presents", "pass", "give", "pull",
        "wait", "down", "with", "of", "to", "by", ";", "+", "-", "*", "/", "(", ")", "<", "=", ">", "0", "1", "12345", "%", "\n"};
    private static final String[] OF_GATES = {"liking", "mood", "rival", "lock", "hour", "draught", "above", "below", "up",
        "passes", "two"};
    private static final String[] OF_HEARTS = {"liking", "mood", "rival", "lock", "hour", "good", "amount", "taste", "presents"};

    private final Random random;
    private final LockWives x = new LockWives();
    private final Mirror y = new Mirror();
    private int calls = 0;

    private MirrorTest(long seed) {
        random = new Random(seed);
    }

    public static void main(String[] args) {
        for (int run = 0; run < RUNS; run++) {
            Check.part("run " + run);
            new MirrorTest(run).play();
        }
        Check.finish("MirrorTest");
    }

    private int below(int n) {
        return random.nextInt(n);
    }

    /** Mostly within the limits, at times on or just beyond them, seldom far out. */
    private int near(int low, int high) {
        switch (below(40)) {
            case 0: return low - 1;
            case 1: return high + 1;
            case 2: return low;
            case 3: return high;
            case 4: return below(10) == 0 ? random.nextInt() : low;
            default: return high < low ? low : low + below(high - low + 1);
        }
    }

    private int someBoat() {
        return near(0, x.look(1) - 1);
    }

    private int someLock() {
        return near(0, x.look(0) - 1);
    }

    private int somePool() {
        return near(0, x.look(0));
    }

    private void play() {
        if (below(4) > 0) {
            canal();
        }
        for (int i = below(6); i > 0; i--) {
            boat();
        }
        while (calls < CALLS) {
            call();
        }
    }

    private void same(String call, long got, long want) {
        calls++;
        Check.due("call " + calls + ", " + call, got, want);
    }

    private void same(String call, boolean got, boolean want) {
        same(call, got ? 1 : 0, want ? 1 : 0);
    }

    private void canal() {
        int n = near(1, 9);
        same("canal " + n, x.canal(n), y.canal(n));
    }

    private void boat() {
        int pool = somePool();
        int draught = below(2) == 0 ? near(1, 99) : near(1, 20);
        int broad = below(2) == 0 ? near(1, 9) : near(1, 3);
        same("boat", x.boat(pool, draught, broad), y.boat(pool, draught, broad));
    }

    private void call() {
        int sort = below(100);
        if (sort < 1) {
            pleaseHardly();
        } else if (sort < 2) {
            orderTightly();
        } else if (sort < 22) {
            tellSomething();
        } else if (sort < 30) {
            text(below(3));
        } else if (sort < 58) {
            doSomething();
        } else if (sort < 84) {
            think();
        } else if (sort < 87) {
            same("undo", x.undo(), y.undo());
        } else if (sort < 88) {
            boolean taken = below(2) == 0;
            same("image " + taken, x.image(taken), y.image(taken));
        } else {
            lookAtSomething();
        }
        if (below(10) == 0) {
            lookAtAll();
        }
    }

    private void tellSomething() {
        int lock = someLock();
        int pool = somePool();
        int v;
        switch (below(16)) {
            case 0:
                v = random.nextInt();
                same("state", x.state(v), y.state(v));
                break;
            case 1:
                if (below(12) == 0) {
                    canal();
                } else {
                    boat();
                }
                break;
            case 2:
            case 3:
                v = below(3) == 0 ? near(980, 999) : below(2) == 0 ? near(0, 120) : near(0, 999);
                same("pool", x.pool(pool, v), y.pool(pool, v));
                break;
            case 4:
            case 5:
            case 6:
            case 7:
                lock(lock);
                break;
            case 8:
            case 9:
            case 10:
                load();
                break;
            case 11:
            case 12:
                int what = near(0, 4);
                v = near(0, what == 4 ? 1 : what == 0 ? 1000 : what == 2 ? 9 : 99);
                same("set " + what + " " + v, x.set(what, v), y.set(what, v));
                break;
            case 13:
                int how = near(0, 1);
                v = below(2) == 0 ? near(0, 200) : near(0, 999);
                int of = below(8) == 0 ? -1 : pool;
                same("said", x.said(of, how, v), y.said(of, how, v));
                break;
            case 14:
                int kind = near(0, 1);
                v = below(2) == 0 ? near(80, 120) : near(0, 999);
                same("tell", x.tell(kind, pool, v), y.tell(kind, pool, v));
                break;
            default:
                tellWhatIsSeen();
                break;
        }
    }

    /** So that pulled() has something to find: what is seen now is what was before some pulls. */
    private void tellWhatIsSeen() {
        for (int p = 0; p <= x.look(0); p++) {
            int depth = x.depth(p);
            same("tell", x.tell(0, p, depth), y.tell(0, p, depth));
        }
        int lock = someLock();
        for (int i = 1 + below(3); i > 0; i--) {
            int m = near(1, 9);
            same("pull", x.pull(lock, m), y.pull(lock, m));
        }
        for (int what = -1; what <= 3; what++) {
            same("pulled " + what, x.pulled(what), y.pulled(what));
        }
    }

    private void lock(int lock) {
        int what;
        int v;
        switch (below(8)) {
            case 0: what = 0; v = near(1, 50); break;
            case 1: what = 1; v = near(0, 9); break;
            case 2: what = 2; v = near(1, 9); break;
            case 3: what = 3; v = near(-99, 99); break;
            case 4: what = 4; v = near(-1, x.look(0) - 1); break;
            case 5: what = 10 + near(0, 3); v = near(-9, 9); break;
            case 6: what = 20 + someBoat(); v = near(-99, 99); break;
            default: what = near(0, 30); v = near(-1, 9); break;
        }
        same("lock " + lock + " " + what + " " + v, x.lock(lock, what, v), y.lock(lock, what, v));
    }

    private void load() {
        int boat = someBoat();
        int what;
        int v;
        switch (below(6)) {
            case 0: what = 0; v = somePool(); break;
            case 1: what = 1; v = near(1, 99); break;
            case 2: what = 2; v = near(1, 9); break;
            case 3: what = near(0, 16); v = near(0, 9); break;
            default: what = 10 + near(0, 3); v = near(0, 99); break;
        }
        same("load " + boat + " " + what + " " + v, x.load(boat, what, v), y.load(boat, what, v));
    }

    private void text(int which) {
        StringBuilder text = new StringBuilder();
        int lines = below(20) == 0 ? 14 + below(20) : below(4);
        for (int i = 0; i < lines; i++) {
            if (which == 2) {
                step(text);
            } else {
                line(text, which == 1);
            }
        }
        spoil(text);
        if (text.length() > 400) {
            text.setLength(400);
        }
        feed(text.toString());
        if (below(40) == 0) {
            int none = near(3, 5);
            same("text " + none, x.text(none), y.text(none));
            same("fault 0", x.fault(0), y.fault(0));
            if (below(2) == 0) {
                feed(text.toString());
            }
        }
        same("text " + which + " of " + text, x.text(which), y.text(which));
        for (int what = -1; what <= 2; what++) {
            same("fault " + what + " of " + text, x.fault(what), y.fault(what));
        }
    }

    private void feed(String text) {
        Check.feed(x, text);
        y.end(0);
        String padded = text + "                   ";
        for (int i = 0; i < text.length(); i += 20) {
            int[] v = new int[5];
            for (int j = 0; j < 20; j++) {
                v[j / 4] = v[j / 4] << 8 | padded.charAt(i + j);
            }
            y.feed(v[0], v[1], v[2], v[3], v[4]);
        }
        y.end(text.length());
    }

    private void spoil(StringBuilder text) {
        if (below(3) > 0) {
            return;
        }
        for (int i = 1 + below(2); i > 0; i--) {
            int at = below(text.length() + 1);
            if (below(2) == 0 && text.length() > 0) {
                text.delete(at, Math.min(text.length(), at + 1 + below(4)));
            } else {
                text.insert(at, below(30) == 0 ? String.valueOf((char) below(256)) : " " + one(WORDS) + " ");
            }
        }
    }

    private String one(String[] words) {
        return words[below(words.length)];
    }

    private void line(StringBuilder text, boolean hearts) {
        if (hearts) {
            text.append("like ");
            sum(text, true);
        } else {
            text.append(below(2) == 0 ? "let" : "hold");
        }
        if (below(6) > 0) {
            text.append(" when ");
            either(text, hearts, 0);
        }
        text.append(below(5) == 0 ? " ;\n" : ";");
    }

    private void either(StringBuilder text, boolean hearts, int depth) {
        both(text, hearts, depth);
        while (below(4) == 0) {
            text.append(" or ");
            both(text, hearts, depth);
        }
    }

    private void both(StringBuilder text, boolean hearts, int depth) {
        claim(text, hearts, depth);
        while (below(4) == 0) {
            text.append(" and ");
            claim(text, hearts, depth);
        }
    }

    private void claim(StringBuilder text, boolean hearts, int depth) {
        boolean deep = below(30) == 0;
        int nest = deep ? 7 + below(3) : 1;
        if (depth < 3 && (deep || below(5) == 0)) {
            int closing = 0;
            for (int i = 0; i < nest; i++) {
                if (below(2) == 0) {
                    text.append("not ");
                } else {
                    text.append('(');
                    closing++;
                }
            }
            claim(text, hearts, depth + 1);
            for (int i = 0; i < closing; i++) {
                text.append(')');
                if (below(3) == 0 && i + 1 < closing) {
                    text.append(below(2) == 0 ? "or " : "and ");
                    claim(text, hearts, depth + 1);
                }
            }
            return;
        }
        sum(text, hearts);
        text.append("<=>".charAt(below(3)));
        sum(text, hearts);
    }

    private void sum(StringBuilder text, boolean hearts) {
        product(text, hearts);
        while (below(3) == 0) {
            text.append(below(2) == 0 ? '+' : '-');
            product(text, hearts);
        }
    }

    private void product(StringBuilder text, boolean hearts) {
        unit(text, hearts);
        while (below(4) == 0) {
            if (below(2) == 0) {
                text.append('*');
                unit(text, hearts);
            } else {
                text.append('/').append(below(12) == 0 ? 0 : 1 + below(20));
            }
        }
    }

    private void unit(StringBuilder text, boolean hearts) {
        if (below(2) == 0) {
            text.append(below(5) == 0 ? below(10000) : below(20));
        } else {
            text.append(one(hearts ? OF_HEARTS : OF_GATES));
        }
    }

    private void step(StringBuilder text) {
        switch (below(6)) {
            case 0:
            case 1:
                text.append("pass ").append(number(someBoat())).append(below(2) == 0 ? " up" : " down");
                if (below(3) == 0) {
                    text.append(" with ").append(number(someBoat()));
                }
                break;
            case 2:
            case 3:
                int amount = below(3) == 0 ? near(1, 99) : near(1, 9);
                text.append("give ").append(number(amount)).append(" of ").append(number(near(0, 3)));
                text.append(" to ").append(number(someLock())).append(" by ").append(number(someBoat()));
                break;
            case 4:
                text.append("pull ").append(number(someLock())).append(' ').append(number(near(1, 9)));
                break;
            default:
                text.append("wait ").append(number(below(3) == 0 ? near(1, 99) : near(1, 5)));
                break;
        }
        text.append(below(5) == 0 ? " ;\n" : ";");
    }

    private static int number(int v) {
        return Math.abs(v % 100000);
    }

    private void doSomething() {
        int boat = someBoat();
        int v;
        switch (below(8)) {
            case 0:
            case 1:
            case 2:
                boolean up = below(2) == 0;
                int with = below(3) == 0 ? someBoat() : -1;
                same("pass " + boat + up + with, x.pass(boat, up, with), y.pass(boat, up, with));
                break;
            case 3:
            case 4:
                int good = near(0, 3);
                int amount = below(4) == 0 ? near(1, 99) : near(1, 12);
                int lock = below(3) == 0 ? someLock() : x.of(boat, 0) - below(2);
                same("give", x.give(boat, good, amount, lock), y.give(boat, good, amount, lock));
                break;
            case 5:
                int k = someLock();
                v = near(1, 9);
                same("pull " + k + " " + v, x.pull(k, v), y.pull(k, v));
                break;
            case 6:
                v = below(10) == 0 ? near(1, 100) : near(1, 5);
                same("hours " + v, x.hours(v), y.hours(v));
                break;
            default:
                same("run", x.run(), y.run());
                break;
        }
    }

    private void think() {
        int boat = someBoat();
        boolean up = below(2) == 0;
        int what;
        switch (below(12)) {
            case 0:
                what = near(0, 1);
                same("far " + boat + up, x.far(boat, up, what), y.far(boat, up, what));
                break;
            case 1:
                int good = near(0, 3);
                int pool = somePool();
                what = below(2) == 0 ? 0 : near(9, 19);
                same("please " + boat + " " + good + " " + pool + " " + what,
                    x.please(boat, good, pool, what), y.please(boat, good, pool, what));
                break;
            case 2:
                int of = somePool();
                what = near(0, 1);
                same("range " + of + " " + what, x.range(of, what), y.range(of, what));
                break;
            case 3:
                what = near(0, 2);
                same("pulled " + what, x.pulled(what), y.pulled(what));
                break;
            case 4:
                what = below(2) == 0 ? 0 : near(9, 19);
                same("mend " + what, x.mend(what), y.mend(what));
                break;
            case 5:
                int boats = someSet();
                what = below(2) == 0 ? 0 : near(9, 15);
                same("order " + boats + up + what, x.order(boats, up, what), y.order(boats, up, what));
                break;
            case 6:
                int set = someSet();
                same("share " + set + up, x.share(set, up), y.share(set, up));
                break;
            case 7:
            case 8:
                int n = below(4) == 0 ? near(0, 200) : near(0, 20);
                what = near(0, 2);
                int a = what == 0 ? somePool() : someLock();
                same("later " + n + " " + what + " " + a, x.later(n, what, a, boat), y.later(n, what, a, boat));
                break;
            case 9:
                same("envy", x.envy(), y.envy());
                break;
            case 10:
                int into = somePool();
                same("smile " + into, x.smile(into), y.smile(into));
                break;
            default:
                for (what = -1; what <= 4; what++) {
                    same("planned " + what, x.planned(what), y.planned(what));
                }
                break;
        }
    }

    /** Keepers who want presents, so that it matters how many and to whom. */
    private void pleaseHardly() {
        String[] gates = {"let when liking>9;hold;", "hold when liking+mood<6;", "hold when lock<3 and liking<4;",
            "let when liking*2+rival>7 or passes>0;hold;", "hold when mood<1 and lock/2*2=lock;", "hold when liking<rival;"};
        String[] hearts = {"", "like amount*5;", "like amount*taste-presents;", "like amount*amount;like 1;",
            "like 9-mood when amount>1;like 0-3;"};
        boolean up = below(2) == 0;
        tellText(0, gates[below(gates.length)]);
        tellText(1, hearts[below(hearts.length)]);
        int boat = Math.max(0, below(Math.max(1, x.look(1))));
        int good = below(4);
        same("load", x.load(boat, 10 + good, 9), y.load(boat, 10 + good, 9));
        for (int what = 1; what <= 2; what++) {
            same("load", x.load(boat, what, 1), y.load(boat, what, 1));
        }
        for (int lock = 0; lock < x.look(0); lock++) {
            tellKeeper(lock, boat, good);
        }
        int n = x.look(0);
        int from = up ? n - below(2) : below(2);
        same("load", x.load(boat, 0, from), y.load(boat, 0, from));
        int pool = below(n + 1);
        for (int what = 9; what <= 10 + n; what++) {
            same("please " + what, x.please(boat, good, pool, what), y.please(boat, good, pool, what));
        }
        same("please", x.please(boat, good, pool, 0), y.please(boat, good, pool, 0));
    }

    private void tellKeeper(int lock, int boat, int good) {
        int liking = below(14);
        int taste = below(8) - 1;
        int rival = below(x.look(0) + 1) - 1;
        same("lock", x.lock(lock, 20 + boat, liking), y.lock(lock, 20 + boat, liking));
        same("lock", x.lock(lock, 10 + good, taste), y.lock(lock, 10 + good, taste));
        same("lock", x.lock(lock, 4, rival), y.lock(lock, 4, rival));
        int depth = 80 + below(100);
        same("pool", x.pool(lock, depth), y.pool(lock, depth));
    }

    private void tellText(int which, String text) {
        feed(text);
        same("text " + text, x.text(which), y.text(which));
    }

    /** Deep boats on shallow water, so that it matters who goes first. */
    private void orderTightly() {
        for (int pool = 0; pool <= x.look(0); pool++) {
            int depth = 40 + below(30);
            same("pool", x.pool(pool, depth), y.pool(pool, depth));
        }
        for (int boat = 0; boat < x.look(1); boat++) {
            int draught = 20 + below(40);
            int pool = below(x.look(0) + 1);
            same("load", x.load(boat, 1, draught), y.load(boat, 1, draught));
            same("load", x.load(boat, 2, 1), y.load(boat, 2, 1));
            same("load", x.load(boat, 0, pool), y.load(boat, 0, pool));
        }
        tellText(0, below(2) == 0 ? "" : "hold when passes>1;");
        boolean up = below(2) == 0;
        int boats = someSet();
        same("order " + boats + up, x.order(boats, up, 0), y.order(boats, up, 0));
        for (int what = 9; what <= 16; what++) {
            same("order " + boats + up + what, x.order(boats, up, what), y.order(boats, up, what));
        }
    }

    private int someSet() {
        return below(30) == 0 ? random.nextInt() : below(1 << x.look(1)) + (below(20) == 0 ? 1 << x.look(1) : 0);
    }

    private void lookAtSomething() {
        int lock = someLock();
        int boat = someBoat();
        int pool = somePool();
        int what = near(0, 50);
        same("look " + what, x.look(what), y.look(what));
        what = below(2) == 0 ? near(0, 30) : near(0, 8);
        same("at " + lock + " " + what, x.at(lock, what), y.at(lock, what));
        what = below(2) == 0 ? near(10, 13) : near(0, 3);
        same("of " + boat + " " + what, x.of(boat, what), y.of(boat, what));
        same("depth " + pool, x.depth(pool), y.depth(pool));
        int line = near(0, x.look(4) - 1);
        what = near(0, 4);
        same("book " + line + " " + what, x.book(line, what), y.book(line, what));
    }

    /** These looks are not counted among the calls: the two must be alike in all that can be seen. */
    private void lookAtAll() {
        int made = calls;
        for (int what = -1; what <= 51; what++) {
            same("look " + what, x.look(what), y.look(what));
        }
        for (int lock = 0; lock < 9; lock++) {
            for (int what = 0; what <= 26; what++) {
                same("at " + lock + " " + what, x.at(lock, what), y.at(lock, what));
            }
        }
        for (int boat = 0; boat <= 6; boat++) {
            for (int what = 0; what <= 14; what++) {
                same("of " + boat + " " + what, x.of(boat, what), y.of(boat, what));
            }
        }
        for (int pool = 0; pool <= 10; pool++) {
            same("depth " + pool, x.depth(pool), y.depth(pool));
            same("smile " + pool, x.smile(pool), y.smile(pool));
        }
        for (int line = 0; line <= 150; line++) {
            for (int what = 0; what <= 4; what++) {
                same("book " + line + " " + what, x.book(line, what), y.book(line, what));
            }
        }
        calls = made;
    }
}
