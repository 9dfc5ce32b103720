import java.util.function.IntPredicate;
import java.util.function.IntSupplier;
import java.util.function.IntUnaryOperator;

/** What the tests share: calls whose answers are compared, and texts that are fed to the tape. */
final class Check {
    static final int[] FAR_OFF = {Integer.MIN_VALUE, Integer.MIN_VALUE + 1, Integer.MAX_VALUE - 1, Integer.MAX_VALUE};

    private static int calls = 0;
    private static int wrong = 0;
    private static String part = "";

    private Check() {
    }

    static void part(String name) {
        part = name;
    }

    static void due(String call, long got, long want) {
        calls++;
        if (got != want) {
            wrong++;
            System.out.println(part + ": " + call + " answered " + got + ", due is " + want);
        }
    }

    static void due(String call, boolean got, boolean want) {
        due(call, got ? 1 : 0, want ? 1 : 0);
    }

    /** A number that is told: taken just at both bounds, refused beyond them, and what was told stays then. */
    static void bounds(String what, int low, int high, IntPredicate tell, IntSupplier told) {
        for (int v : new int[] {low, high}) {
            due(what + " " + v, tell.test(v), true);
            due(what + " is " + v, told.getAsInt(), v);
        }
        for (int v : new int[] {low - 1, high + 1}) {
            due(what + " " + v, tell.test(v), false);
            due(what + " stays ahead of " + v, told.getAsInt(), high);
        }
        for (int v : FAR_OFF) {
            due(what + " " + v, tell.test(v), false);
        }
        due(what + " stays", told.getAsInt(), high);
    }

    /** A call that has no answer but this one just beyond two bounds, and far beyond them. */
    static void beyond(String what, int low, int high, IntUnaryOperator call, int answer) {
        due(what + " " + (low - 1), call.applyAsInt(low - 1), answer);
        due(what + " " + (high + 1), call.applyAsInt(high + 1), answer);
        for (int v : FAR_OFF) {
            due(what + " " + v, call.applyAsInt(v), answer);
        }
    }

    /** All that can be seen of an object without the book's older lines. */
    static int[] sight(LockWives x) {
        int[] all = new int[1000];
        int count = 0;
        int n = x.look(0);
        int boats = x.look(1);
        for (int what = 0; what <= 40 + n; what++) {
            if (what < 12 || what >= 20 && what < 25 || what >= 30 && what <= 30 + n || what >= 40) {
                all[count++] = x.look(what);
            }
        }
        for (int pool = 0; pool <= n; pool++) {
            all[count++] = x.depth(pool);
        }
        for (int lock = 0; lock < n; lock++) {
            for (int what = 0; what < 20 + boats; what++) {
                if (what < 7 || what >= 10 && what < 14 || what >= 20) {
                    all[count++] = x.at(lock, what);
                }
            }
        }
        for (int boat = 0; boat < boats; boat++) {
            for (int what = 0; what < 14; what++) {
                if (what < 3 || what >= 10) {
                    all[count++] = x.of(boat, what);
                }
            }
        }
        for (int what = 0; what < 5; what++) {
            all[count++] = x.book(x.look(4) - 1, what);
        }
        all[count++] = x.fault(0);
        all[count++] = x.fault(1);
        return java.util.Arrays.copyOf(all, count);
    }

    static void same(String call, LockWives x, int[] before) {
        int[] now = sight(x);
        due(call + ", as much is seen", now.length, before.length);
        for (int i = 0; i < Math.min(now.length, before.length); i++) {
            due(call + ", seen " + i, now[i], before[i]);
        }
    }

    /** Puts a text alone on the tape. */
    static void feed(LockWives x, String text) {
        x.end(0);
        StringBuilder padded = new StringBuilder(text);
        while (padded.length() % 20 != 0) {
            padded.append(' ');
        }
        for (int i = 0; i < padded.length(); i += 20) {
            x.feed(four(padded, i), four(padded, i + 4), four(padded, i + 8), four(padded, i + 12), four(padded, i + 16));
        }
        x.end(text.length());
    }

    static int text(LockWives x, int which, String text) {
        feed(x, text);
        return x.text(which);
    }

    /** A text that must have this fault at this place, and must leave what was there. */
    static void faulty(LockWives x, int which, String text, int fault, int place) {
        int before = x.look(6 + which);
        due("text " + text, text(x, which, text), LockWives.NONE);
        due("fault(0) of " + text, x.fault(0), fault);
        due("fault(1) of " + text, x.fault(1), place);
        due("lines after " + text, x.look(6 + which), before);
    }

    static String repeat(String text, int times) {
        return text.repeat(times);
    }

    static void finish(String name) {
        System.out.println(name + ": " + calls + " answers, " + wrong + " wrong");
        if (wrong != 0 || calls == 0) {
            System.exit(1);
        }
    }

    private static int four(CharSequence text, int i) {
        return text.charAt(i) << 24 | text.charAt(i + 1) << 16 | text.charAt(i + 2) << 8 | text.charAt(i + 3);
    }
}
