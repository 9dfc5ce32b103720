/** Terms 3, A PLAN: each bound of its text and of its run just at it and just beyond it. */
public final class PlanBoundsTest {
    private static final int NONE = LockWives.NONE;
    private static final int IMPOSSIBLE = NONE - 999;
    private static final int[] SIZES = {1, 4, 9};
    private static final String[] WORDS = {"let", "hold", "like", "when", "or", "and", "not", "liking", "mood", "rival", "lock",
        "hour", "draught", "above", "below", "passes", "two", "good", "amount", "taste", "presents"};

    public static void main(String[] args) {
        emptyPlan();
        thirtySteps();
        boatsThereAre();
        locksThereAre();
        goodsAndAmounts();
        pullsAndHours();
        numbersAsTokens();
        noBoatsYet();
        countedWhenTold();
        endOfTheText();
        whatCanStand();
        wordsOfThePlanAlone();
        signsOfThePlanAlone();
        blanksAndTogether();
        firstFaultByPlace();
        leastFaultAtOnePlace();
        aFaultChangesNoPlan();
        canalToldAnewHasNone();
        withItself();
        runTillOneIsRefused();
        everyRefusalEndsIt();
        pullWithoutWaterIsDone();
        waitingBeyondTheLastHour();
        stepsAreUndoneEachByItself();
        hoursOfAStepAreUndoneEachByItself();
        rainInARun();
        longestSteps();
        plannedOfNothing();
        plannedCounts();
        plannedRefusals();
        nothingOfThePlannedStays();
        Check.finish("PlanBoundsTest");
    }

    private static LockWives canal(String part, int n) {
        Check.part(part);
        LockWives x = new LockWives();
        Check.due("canal", x.canal(n), true);
        return x;
    }

    private static void right(LockWives x, String text, int steps) {
        Check.due("text " + text, Check.text(x, 2, text), steps);
        Check.due("no fault in " + text, x.fault(0), 0);
        Check.due("no place in " + text, x.fault(1), NONE);
        Check.due("steps of " + text, x.look(8), steps);
    }

    /** A number of a text that is right from low to high, and FAULT 2 at its place beyond them. */
    private static void bounds(LockWives x, String ahead, int low, int high, String behind) {
        for (int v : new int[] {low, high}) {
            right(x, ahead + v + behind, 1);
            right(x, ahead + "00" + v + behind, 1);
        }
        if (low > 0) {
            Check.faulty(x, 2, ahead + (low - 1) + behind, 2, ahead.length());
            Check.faulty(x, 2, ahead + "0000" + behind, 2, ahead.length());
        }
        Check.faulty(x, 2, ahead + (high + 1) + behind, 2, ahead.length());
        Check.faulty(x, 2, ahead + "9999" + behind, 2, ahead.length());
        Check.faulty(x, 2, ahead + "00000" + behind, 1, ahead.length());
        Check.faulty(x, 2, ahead + "10000" + behind, 1, ahead.length());
        Check.faulty(x, 2, ahead + "99999999999" + behind, 1, ahead.length());
        Check.faulty(x, 2, ahead + "-1" + behind, 1, ahead.length());
        Check.faulty(x, 2, ahead + behind, 1, (ahead + behind).indexOf(behind.trim(), ahead.length()));
    }

    // ---- the text

    private static void emptyPlan() {
        LockWives x = canal("3: empty at first, {STEP} may be none", 1);
        Check.due("steps", x.look(8), 0);
        Check.due("run", x.run(), 0);
        for (String text : new String[] {"", " ", "\n", " \n \n"}) {
            right(x, "wait 1;", 1);
            right(x, text, 0);
            Check.due("run", x.run(), 0);
        }
        Check.due("HOUR", x.look(2), 0);
        Check.due("nothing to undo", x.look(9), 0);
    }

    private static void thirtySteps() {
        LockWives x = canal("3: FAULT 3 at the KEYWORD of the 31st STEP", 1);
        x.boat(0, 1, 1);
        right(x, Check.repeat("wait 1;", 29), 29);
        right(x, Check.repeat("wait 1;", 30), 30);
        right(x, Check.repeat("wait 1;", 30) + " \n", 30);
        Check.due("run", x.run(), 30);
        Check.due("HOUR", x.look(2), 30);
        for (String step : new String[] {"wait 1;", "pass 0 up;", "pull 0 1;", "give 1 of 0 to 0 by 0;", "wait", "pass 9", "pull;"}) {
            Check.faulty(x, 2, Check.repeat("wait 1;", 30) + step, 3, 210);
            Check.faulty(x, 2, Check.repeat("pull 0 1;", 30) + " \n " + step, 3, 273);
        }
        Check.faulty(x, 2, Check.repeat("wait 1;", 57), 3, 210);
        right(x, Check.repeat("wait 1;", 29) + "pull 0 1;", 30);
        Check.due("the thirtieth is done", x.run(), 30);
        Check.due("HOUR", x.look(2), 59);
        Check.due("it flowed", x.depth(1), 110);
    }

    private static void boatsThereAre() {
        for (int boats = 1; boats <= 6; boats++) {
            LockWives x = canal("3: FAULT 2 at a BOAT that there is not", 2);
            for (int boat = 0; boat < boats; boat++) {
                x.boat(1, 1, 1);
            }
            bounds(x, "pass ", 0, boats - 1, " up;");
            bounds(x, "pass ", 0, boats - 1, " down with 0;");
            bounds(x, "pass 0 up with ", 0, boats - 1, ";");
            bounds(x, "give 1 of 0 to 0 by ", 0, boats - 1, ";");
        }
    }

    private static void locksThereAre() {
        for (int n : SIZES) {
            LockWives x = canal("3: FAULT 2 at a LOCK that there is not", n);
            x.boat(0, 1, 1);
            bounds(x, "give 1 of 0 to ", 0, n - 1, " by 0;");
            right(x, "pull " + (n - 1) + " 1;", 1);
            Check.faulty(x, 2, "pull " + n + " 1;", 2, 5);
            Check.faulty(x, 2, "pull 9999 1;", 2, 5);
            Check.faulty(x, 2, "pull 10000 1;", 1, 5);
            Check.faulty(x, 2, "pull ;", 1, 5);
        }
    }

    private static void goodsAndAmounts() {
        LockWives x = canal("3: FAULT 2 at a GOOD above 3, an amount 0 or above 99", 1);
        x.boat(0, 1, 1);
        bounds(x, "give ", 1, 99, " of 0 to 0 by 0;");
        bounds(x, "give 1 of ", 0, 3, " to 0 by 0;");
    }

    private static void pullsAndHours() {
        LockWives x = canal("3: FAULT 2 at pulls 0 or above 9, HOURS 0 or above 99", 1);
        bounds(x, "pull 0 ", 1, 9, ";");
        bounds(x, "wait ", 1, 99, ";");
    }

    private static void numbersAsTokens() {
        LockWives x = canal("3: NUMBERS of 1 to 4 digits", 1);
        x.boat(0, 1, 1);
        right(x, "pass 0000 up;wait 0099;pull 0000 0009;give 0099 of 0003 to 0000 by 0000;", 4);
        Check.faulty(x, 2, "wait 00099;", 1, 5);
        Check.faulty(x, 2, "wait 9 9;", 1, 7);
        Check.faulty(x, 2, "pull 00;", 1, 7);
        Check.faulty(x, 2, "pull 0 1 1;", 1, 9);
        Check.faulty(x, 2, "pass up;", 1, 5);
        Check.faulty(x, 2, "wait wait;", 1, 5);
    }

    private static void noBoatsYet() {
        LockWives x = canal("3: no BOAT is there yet", 1);
        Check.faulty(x, 2, "pass 0 up;", 2, 5);
        Check.faulty(x, 2, "give 1 of 0 to 0 by 0;", 2, 20);
        x.boat(0, 1, 1);
        right(x, "pass 0 up;", 1);
        Check.faulty(x, 2, "pass 0 up with 1;", 2, 15);
        x.boat(0, 1, 1);
        right(x, "pass 0 up with 1;", 1);
    }

    /** What there is counts when the text is told, and nothing else is asked then. */
    private static void countedWhenTold() {
        LockWives x = canal("3: a text asks what there is, not what can be done", 2);
        x.boat(2, 99, 9);
        x.boat(0, 1, 1);
        Check.text(x, 0, "hold;");
        x.pool(0, 0);
        right(x, "pass 0 down;pass 0 up with 1;pass 1 down;give 99 of 3 to 0 by 0;pull 0 9;wait 99;", 6);
        Check.due("none is done", x.run(), 0);
    }

    private static void endOfTheText() {
        LockWives x = null;
        String[] steps = {"pass 0 up with 1 ;", "pass 0 down ;", "give 2 of 3 to 1 by 0 ;", "pull 1 9 ;", "wait 99 ;"};
        for (String step : steps) {
            x = canal("3: FAULT 1 at the end has the text's length as its place", 2);
            x.boat(1, 1, 1);
            x.boat(1, 1, 1);
            right(x, step, 1);
            right(x, step + step, 2);
            for (int length = 1; length < step.length(); length++) {
                boolean within = Character.isLetter(step.charAt(length - 1)) && Character.isLetter(step.charAt(length));
                if (!within) {
                    Check.faulty(x, 2, step.substring(0, length), 1, length);
                    Check.faulty(x, 2, step + step.substring(0, length), 1, step.length() + length);
                }
            }
        }
        Check.faulty(x, 2, "wait 1 \n ", 1, 9);
        Check.faulty(x, 2, "wait" + Check.repeat(" ", 396), 1, 400);
        Check.faulty(x, 2, Check.repeat(" ", 396) + "wait", 1, 400);
        Check.faulty(x, 2, Check.repeat(" ", 396) + "pass", 1, 400);
        Check.faulty(x, 2, Check.repeat(" ", 397) + "pas", 1, 397);
        Check.faulty(x, 2, "wait" + Check.repeat(" ", 395) + "1", 1, 400);
        right(x, "wait" + Check.repeat(" ", 394) + "1;", 1);
    }

    private static void whatCanStand() {
        String[] texts = {";", "1;", "0 pass up;", "wait 1;;", "pass 0 0 up;", "pass 0 up down;", "pass 0 with 1 up;",
            "pass 0 up 1;", "pass 0 up with 1 with 0;", "pass 0 up with up;", "give of 0 to 0 by 0;", "give 1 0 to 0 by 0;",
            "give 1 of to 0 by 0;", "give 1 of 0 0 by 0;", "give 1 of 0 by 0 to 0;", "give 1 of 0 to by 0;", "give 1 of 0 to 0;",
            "give 1 of 0 to 0 by;", "give 1 of 0 to 0 by 0 0;", "give by 0 1 of 0 to 0;", "pull 1 of 1;", "pull 1;", "wait;",
            "wait 1 1;", "wait 1 wait 1;", "up;", "down 1;", "with 1;", "of 1;", "to 1;", "by 1;"};
        int[] places = {0, 0, 0, 7, 7, 10, 7, 10, 17, 15, 5, 7, 10, 12, 12, 15, 16, 19, 22, 5, 7, 6, 4, 7, 7, 0, 0, 0, 0, 0, 0};
        for (int i = 0; i < texts.length; i++) {
            LockWives x = canal("3: the words of each STEP in their order", 2);
            x.boat(1, 1, 1);
            x.boat(1, 1, 1);
            Check.faulty(x, 2, texts[i], 1, places[i]);
            Check.faulty(x, 2, "wait 1;" + texts[i], 1, 7 + places[i]);
        }
    }

    private static void wordsOfThePlanAlone() {
        for (String word : WORDS) {
            LockWives x = canal("3: KEYWORDS of it alone", 1);
            x.boat(0, 1, 1);
            Check.faulty(x, 2, word + " 1;", 1, 0);
            Check.faulty(x, 2, "pass 0 " + word + ";", 1, 7);
            Check.faulty(x, 2, "pass 0 up " + word + " 1;", 1, 10);
            Check.faulty(x, 2, "wait " + word + ";", 1, 5);
        }
        LockWives x = canal("3: KEYWORDS of it alone", 1);
        for (String word : new String[] {"Wait", "WAIT", "waits", "wai", "ait", "awaits", "w", "ull", "ive", "ass"}) {
            Check.faulty(x, 2, word + " 1;", 1, 0);
        }
        for (String word : new String[] {"wait", "pass", "give", "pull", "down", "with", "of", "to", "by"}) {
            Check.faulty(x, 0, "let when " + word + "=1;", 1, 9);
            Check.faulty(x, 1, "like " + word + ";", 1, 5);
        }
    }

    private static void signsOfThePlanAlone() {
        LockWives x = canal("3: signs are ; alone", 1);
        for (int sign = 33; sign < 127; sign++) {
            if (sign % 8 == 0) {
                x = canal("3: signs are ; alone", 1);
            }
            boolean letter = sign >= 'a' && sign <= 'z' || sign >= 'A' && sign <= 'Z';
            if (sign == ';' || letter || sign >= '0' && sign <= '9') {
                continue;
            }
            Check.faulty(x, 2, (char) sign + "wait 1;", 1, 0);
            Check.faulty(x, 2, "wait" + (char) sign + "1;", 1, 4);
            Check.faulty(x, 2, "wait 1" + (char) sign, 1, 6);
            Check.faulty(x, 2, "wait 1;" + (char) sign, 1, 7);
        }
    }

    private static void blanksAndTogether() {
        LockWives x = canal("3: TOKENS as above", 1);
        x.boat(0, 1, 1);
        right(x, "wait1;wait\n1\n;\n wait 1 ; ", 3);
        right(x, "pass0up;pull 0\n1;", 2);
        right(x, "give1of0to0by0;", 1);
        Check.faulty(x, 2, "waitwait 1;", 1, 0);
        Check.faulty(x, 2, "pass 0 upwith 0;", 1, 7);
        Check.faulty(x, 2, "pass 0 u p;", 1, 7);
        Check.faulty(x, 2, "wait\t1;", 1, 4);
        Check.faulty(x, 2, "wait 1\r;", 1, 6);
        Check.faulty(x, 2, "wait 1;\0", 1, 7);
    }

    private static void firstFaultByPlace() {
        LockWives x = canal("3: of FAULTS the first by its place", 1);
        x.boat(0, 1, 1);
        Check.faulty(x, 2, "pass 1 sideways;", 2, 5);
        Check.faulty(x, 2, "pass 1 up with 1;", 2, 5);
        Check.faulty(x, 2, "pass 1", 2, 5);
        Check.faulty(x, 2, "pass ? 1 up;", 1, 5);
        Check.faulty(x, 2, "give 0 of 4 to 1 by 1;", 2, 5);
        Check.faulty(x, 2, "give 1 of 4 to 1 by 1;", 2, 10);
        Check.faulty(x, 2, "give 1 of 0 to 1 by 1;", 2, 15);
        Check.faulty(x, 2, "give 1 of 0 to 0 by 1;", 2, 20);
        Check.faulty(x, 2, "give 0 to 0 by 0;", 2, 5);
        Check.faulty(x, 2, "give 1 to 0 by 1;", 1, 7);
        Check.faulty(x, 2, "pull 1 0;", 2, 5);
        Check.faulty(x, 2, "pull 0 0;", 2, 7);
        Check.faulty(x, 2, "wait 0;?", 2, 5);
        Check.faulty(x, 2, "wait 1;?;wait 0;", 1, 7);
        Check.faulty(x, 2, "wait 0;" + Check.repeat("wait 1;", 30), 2, 5);
        Check.faulty(x, 2, Check.repeat("wait 1;", 29) + "wait 0;wait 1;", 2, 208);
        Check.faulty(x, 2, Check.repeat("wait 1;", 30) + "wait 0;", 3, 210);
        Check.faulty(x, 2, Check.repeat("wait 1;", 29) + "wait 1?wait 1;", 1, 209);
    }

    private static void leastFaultAtOnePlace() {
        LockWives x = canal("3: at one place the least FAULT", 1);
        for (String no : new String[] {"let", "up", "with", "1", ";", "?", "waits", "12345"}) {
            Check.faulty(x, 2, Check.repeat("wait 1;", 30) + no + " 1;", 1, 210);
        }
        Check.faulty(x, 2, "wait 12345;", 1, 5);
        Check.faulty(x, 2, "pull 00000 00000;", 1, 5);
    }

    private static void aFaultChangesNoPlan() {
        LockWives x = canal("11: THE PLAN stays as it was", 1);
        x.boat(0, 1, 1);
        String[] texts = {"pull 0 1;pull 0 1;?", "wait 1;wait 0;", Check.repeat("pull 0 1;", 31), "pass 1 up;", "pull 0 2;wait 3"};
        for (String text : texts) {
            right(x, "wait 2;pass 0 up;", 2);
            Check.due(text, Check.text(x, 2, text), NONE);
            Check.due("steps", x.look(8), 2);
            Check.due("planned", x.planned(0), 1);
            int hour = x.look(2);
            Check.due("run", x.run(), 1);
            Check.due("HOUR", x.look(2), hour + 2);
            Check.due("DEPTH", x.depth(0), 100);
        }
        Check.due("GATES have none of it", x.look(6), 0);
        Check.due("HEARTS have none of it", x.look(7), 0);
    }

    private static void canalToldAnewHasNone() {
        LockWives x = canal("3: Told anew THE CANAL has none", 1);
        right(x, "wait 1;wait 1;", 2);
        Check.due("not told", x.canal(0), false);
        Check.due("steps stay", x.look(8), 2);
        Check.due("canal", x.canal(1), true);
        Check.due("steps", x.look(8), 0);
        Check.due("planned", x.planned(0), 0);
        Check.due("run", x.run(), 0);
        Check.due("HOUR", x.look(2), 0);
    }

    private static void withItself() {
        LockWives x = canal("3: with itself is no FAULT, but is refused", 1);
        x.boat(0, 1, 1);
        right(x, "pass 0 down with 0;", 1);
        Check.due("run", x.run(), 0);
        Check.due("planned", x.planned(1), NONE);
    }

    // ---- the run

    private static void runTillOneIsRefused() {
        for (int refused = 0; refused <= 30; refused++) {
            LockWives x = canal("17: STEP by STEP, till one is refused: how many were done", 1);
            x.boat(0, 1, 1);
            String ahead = Check.repeat("wait 1;", refused);
            String behind = refused == 30 ? "" : "pass 0 up;" + Check.repeat("wait 1;", 29 - refused);
            right(x, ahead + behind, 30);
            Check.due("planned", x.planned(0), refused);
            Check.due("run", x.run(), refused);
            Check.due("none behind it is done", x.look(2), refused);
        }
    }

    private static void everyRefusalEndsIt() {
        String[] steps = {"pass 0 up", "pass 0 down with 2", "pass 0 down with 1", "pass 0 down", "pass 0 down", "pass 0 down",
            "give 8 of 0 to 0 by 0", "give 1 of 1 to 0 by 0", "give 1 of 0 to 1 by 0"};
        int[] why = {NONE, NONE, -2, -3, -4, -5, NONE, NONE, NONE};
        for (int i = 0; i < steps.length; i++) {
            LockWives x = canal("17: refused as told there", 2);
            x.boat(0, 50, 3);
            x.boat(0, 50, 2);
            x.boat(1, 50, 1);
            x.load(0, 10, 7);
            Check.text(x, 0, why[i] == -3 ? "hold;" : "");
            x.pool(0, why[i] == -4 ? 9 : 10);
            x.pool(1, why[i] == -5 ? 39 : 40);
            right(x, "wait 1;" + steps[i] + ";wait 1;", 3);
            Check.due("planned " + steps[i], x.planned(0), 1);
            Check.due("why " + steps[i], x.planned(1), why[i]);
            Check.due("run " + steps[i], x.run(), 1);
            Check.due("HOUR", x.look(2), 1);
            Check.due("no line", x.look(4), 0);
            Check.due("can be undone", x.look(9), 1);
            Check.due("CARGO stays", x.of(0, 10), 7);
        }
        LockWives x = canal("17: just not refused", 2);
        x.boat(0, 50, 3);
        x.boat(0, 50, 1);
        x.load(0, 10, 7);
        x.pool(0, 10);
        x.pool(1, 40);
        right(x, "give 7 of 0 to 0 by 0;pass 0 down with 1;wait 1;", 3);
        Check.due("planned", x.planned(1), 0);
        Check.due("run", x.run(), 3);
    }

    private static void pullWithoutWaterIsDone() {
        LockWives x = canal("17: a PULL by which none flows is not refused", 1);
        x.pool(0, 9);
        right(x, "pull 0 9;wait 1;pull 0 1;", 3);
        Check.due("planned", x.planned(0), 3);
        Check.due("planned", x.planned(1), 0);
        Check.due("FILLS", x.planned(2), 0);
        Check.due("run", x.run(), 3);
        Check.due("HOUR", x.look(2), 1);
        Check.due("no line", x.look(4), 0);
        Check.due("each can be undone", x.look(9), 3);
        x.pool(0, 10);
        Check.due("FILLS", x.planned(2), 1);
        Check.due("run", x.run(), 3);
        Check.due("a line", x.look(4), 1);
    }

    private static void waitingBeyondTheLastHour() {
        LockWives x = canal("17: waiting beyond HOUR 9999 is refused", 1);
        for (int i = 0; i < 99; i++) {
            x.hours(100);
        }
        right(x, "wait 99;wait 1;", 2);
        Check.due("planned", x.planned(0), 1);
        Check.due("why", x.planned(1), NONE);
        Check.due("to 9999", x.run(), 1);
        Check.due("HOUR", x.look(2), 9999);
        Check.due("not beyond", x.run(), 0);
        Check.due("HOUR", x.look(2), 9999);
        right(x, "pull 0 1;wait 1;pull 0 1;", 3);
        Check.due("planned", x.planned(0), 1);
        Check.due("why", x.planned(1), NONE);
        Check.due("FILLS", x.planned(2), 1);
        Check.due("run", x.run(), 1);
        Check.due("HOUR", x.look(2), 9999);
        x.undo();
        x.undo();
        right(x, "wait 2;", 1);
        Check.due("two from 9998", x.planned(0), 0);
        Check.due("none of them", x.run(), 0);
        Check.due("HOUR", x.look(2), 9998);
        right(x, "wait 1;", 1);
        Check.due("one from 9998", x.run(), 1);
        Check.due("HOUR", x.look(2), 9999);
    }

    private static void stepsAreUndoneEachByItself() {
        LockWives x = canal("35: of a PLAN each by itself", 1);
        x.boat(0, 1, 1);
        x.load(0, 10, 9);
        x.lock(0, 10, 2);
        right(x, "give 4 of 0 to 0 by 0;pull 0 2;pass 0 down;wait 1;pass 0 down;", 5);
        Check.due("run", x.run(), 4);
        Check.due("four", x.look(9), 4);
        Check.due("undo", x.undo(), true);
        Check.due("the hour", x.look(2), 0);
        Check.due("not the passing", x.of(0, 0), 1);
        Check.due("undo", x.undo(), true);
        Check.due("the passing", x.of(0, 0), 0);
        Check.due("not the pull", x.depth(0), 80);
        Check.due("undo", x.undo(), true);
        Check.due("the pull, both times", x.depth(0), 100);
        Check.due("not the present", x.at(0, 20), 8);
        Check.due("undo", x.undo(), true);
        Check.due("the present", x.at(0, 20), 0);
        Check.due("THE PLAN stays", x.look(8), 5);
        Check.due("no more", x.undo(), false);
    }

    private static void hoursOfAStepAreUndoneEachByItself() {
        for (int hours = 1; hours <= 12; hours++) {
            LockWives x = canal("35: each HOUR by itself, 10 are kept", 1);
            right(x, "wait " + hours + ";", 1);
            Check.due("run", x.run(), 1);
            int kept = Math.min(10, hours);
            Check.due("kept", x.look(9), kept);
            for (int i = 1; i <= kept; i++) {
                Check.due("undo", x.undo(), true);
                Check.due("HOUR", x.look(2), hours - i);
            }
            Check.due("no more", x.undo(), false);
        }
    }

    private static void rainInARun() {
        LockWives x = canal("17: it rains in a RUN, not in thought", 1);
        x.set(0, 1000);
        x.set(1, 5);
        right(x, "wait 2;", 1);
        Check.due("planned", x.planned(0), 1);
        Check.due("no draw in thought", x.look(5), 0);
        Check.due("run", x.run(), 1);
        Check.due("STATE", x.look(5), (1013904223 * 1664525) + 1013904223);
        Check.due("DEPTH", x.depth(0), 110);
        Check.due("lines", x.look(4), 2);
        // only rain makes it a lockful
        x.pool(0, 5);
        right(x, "wait 1;pull 0 9;", 2);
        Check.due("no rain in thought", x.planned(2), 0);
        Check.due("run", x.run(), 2);
        Check.due("rain", x.depth(1), 110);
    }

    private static void longestSteps() {
        LockWives x = canal("3: the greatest of all numbers are kept", 9);
        for (int boat = 0; boat < 6; boat++) {
            x.boat(9, 1, 1);
        }
        x.load(5, 13, 99);
        x.lock(8, 13, 1);
        x.pool(8, 200);
        right(x, "give 99 of 3 to 8 by 5;pull 8 9;wait 99;pass 5 up with 4;pass 5 down;", 5);
        Check.due("planned goods", x.planned(3), 99);
        Check.due("run", x.run(), 5);
        Check.due("LIKING", x.at(8, 25), 99);
        Check.due("CARGO", x.of(5, 13), 0);
        Check.due("HOUR", x.look(2), 99);
        Check.due("boat 5", x.of(5, 0), 9);
        Check.due("boat 4", x.of(4, 0), 8);
        Check.due("boat 3", x.of(3, 0), 9);
        Check.due("pulled nine times, passed twice", x.look(4), 4);
        int[][] lines = {{0, 1, 8, 5, 99}, {0, 2, 8, NONE, 90}, {99, 0, 8, 5, 10}};
        for (int i = 0; i < lines.length; i++) {
            for (int what = 0; what < 5; what++) {
                Check.due("line " + i, x.book(i, what), lines[i][what]);
            }
        }
    }

    // ---- planned

    private static void plannedOfNothing() {
        LockWives x = canal("34: PLANNED of an empty PLAN; NONE - 999 for another what", 1);
        for (int what = 0; what < 4; what++) {
            Check.due("planned " + what, x.planned(what), 0);
        }
        Check.beyond("planned", 0, 3, x::planned, IMPOSSIBLE);
        right(x, "wait 1;", 1);
        Check.beyond("planned", 0, 3, x::planned, IMPOSSIBLE);
        x.boat(0, 1, 1);
        x.load(0, 10, 5);
        right(x, "pull 0 1;give 5 of 0 to 0 by 0;pass 0 up;", 3);
        int[] then = {2, NONE, 1, 5};
        for (int what = 0; what < 4; what++) {
            Check.due("planned " + what, x.planned(what), then[what]);
        }
        right(x, "", 0);
        for (int what = 0; what < 4; what++) {
            Check.due("of none again, " + what, x.planned(what), 0);
        }
    }

    private static void plannedCounts() {
        LockWives x = canal("34: FILLS counted, GOODS added", 2);
        x.boat(0, 1, 1);
        x.boat(0, 1, 1);
        for (int good = 0; good < 4; good++) {
            x.load(0, 10 + good, 50);
        }
        x.lock(0, 10, -9);
        x.lock(0, 0, 7);
        right(x, "give 50 of 0 to 0 by 0;give 1 of 1 to 0 by 0;give 49 of 3 to 0 by 0;", 3);
        Check.due("GOODS", x.planned(3), 100);
        Check.due("FILLS", x.planned(2), 0);
        right(x, "give 50 of 0 to 0 by 0;give 1 of 0 to 0 by 0;give 1 of 1 to 0 by 0;", 3);
        Check.due("steps", x.planned(0), 1);
        Check.due("GOODS of those done", x.planned(3), 50);
        right(x, "pass 0 down with 1;", 1);
        Check.due("of two one FILL", x.planned(2), 1);
        right(x, "pass 0 down;pass 1 down;pass 0 up;pass 0 down with 1;", 4);
        Check.due("steps", x.planned(0), 3);
        Check.due("FILLS of those done", x.planned(2), 3);
        Check.due("why", x.planned(1), NONE);
        right(x, "pull 0 9;pull 0 9;", 2);
        Check.due("as long as there is", x.planned(2), 14);
        right(x, "pull 0 9;pass 0 down;pull 0 9;wait 9;pull 1 3;", 5);
        Check.due("in passings and pulls", x.planned(2), 9 + 1 + 4 + 3);
        Check.due("GOODS", x.planned(3), 0);
        Check.due("asked again", x.planned(2), 17);
    }

    private static void plannedRefusals() {
        LockWives x = canal("34: by what the next one is refused, of GIVING, waiting NONE", 1);
        x.boat(0, 1, 1);
        x.load(0, 10, 5);
        right(x, "give 5 of 0 to 0 by 0;give 1 of 0 to 0 by 0;", 2);
        Check.due("giving", x.planned(1), NONE);
        Check.due("steps", x.planned(0), 1);
        right(x, "give 5 of 0 to 0 by 0;", 1);
        Check.due("none is", x.planned(1), 0);
        Check.text(x, 1, "like 0-99;");
        Check.due("D of -99 is no refusal", x.planned(0), 1);
        Check.due("D of -99 is no refusal", x.planned(1), 0);
        Check.due("run", x.run(), 1);
        Check.due("LIKING", x.at(0, 20), -99);
    }

    private static void nothingOfThePlannedStays() {
        LockWives x = canal("34: nothing of it stays", 1);
        x.boat(0, 1, 1);
        x.load(0, 10, 5);
        x.lock(0, 10, 1);
        x.lock(0, 1, 1);
        x.set(0, 500);
        x.set(1, 9);
        x.set(2, 1);
        x.set(3, 9);
        right(x, "give 1 of 0 to 0 by 0;pull 0 2;wait 5;pass 0 down;wait 5;", 5);
        x.pull(0, 1);
        int[] before = Check.sight(x);
        for (int what = 0; what < 4; what++) {
            x.planned(what);
        }
        Check.same("planned", x, before);
        Check.due("undo", x.undo(), true);
        Check.due("DEPTH", x.depth(0), 100);
    }
}
