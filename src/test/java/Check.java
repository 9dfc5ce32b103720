/** What the tests share: calls whose answers are compared, and texts that are fed to the tape. */
final class Check {
    private static int calls = 0;
    private static int wrong = 0;
    private static String part = "";

    private Check() {
    }

    static void part(String name) {
        part = name;
    }

    static void due(String call, long got, long want) {
        calls++;
        if (got != want) {
            wrong++;
            System.out.println(part + ": " + call + " answered " + got + ", due is " + want);
        }
    }

    static void due(String call, boolean got, boolean want) {
        due(call, got ? 1 : 0, want ? 1 : 0);
    }

    /** Puts a text alone on the tape. */
    static void feed(LockWives x, String text) {
        x.end(0);
        StringBuilder padded = new StringBuilder(text);
        while (padded.length() % 20 != 0) {
            padded.append(' ');
        }
        for (int i = 0; i < padded.length(); i += 20) {
            x.feed(four(padded, i), four(padded, i + 4), four(padded, i + 8), four(padded, i + 12), four(padded, i + 16));
        }
        x.end(text.length());
    }

    static int text(LockWives x, int which, String text) {
        feed(x, text);
        return x.text(which);
    }

    /** A text that must have this fault at this place, and must leave what was there. */
    static void faulty(LockWives x, int which, String text, int fault, int place) {
        int before = x.look(6 + which);
        due("text " + text, text(x, which, text), LockWives.NONE);
        due("fault(0) of " + text, x.fault(0), fault);
        due("fault(1) of " + text, x.fault(1), place);
        due("lines after " + text, x.look(6 + which), before);
    }

    static String repeat(String text, int times) {
        return text.repeat(times);
    }

    static void finish(String name) {
        System.out.println(name + ": " + calls + " answers, " + wrong + " wrong");
        if (wrong != 0 || calls == 0) {
            System.exit(1);
        }
    }

    private static int four(CharSequence text, int i) {
        return text.charAt(i) << 24 | text.charAt(i + 1) << 16 | text.charAt(i + 2) << 8 | text.charAt(i + 3);
    }
}
