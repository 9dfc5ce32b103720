/** Terms 2, the texts of the two LAWS: each bound of a text just at it and just beyond it, and what a LAW answers at bounds. */
public final class LawBoundsTest {
    private static final int NONE = LockWives.NONE;
    private static final String[] OF_BOTH = {"liking", "mood", "rival", "lock", "hour"};
    private static final String[] OF_GATES = {"draught", "above", "below", "up", "passes", "two"};
    private static final String[] OF_HEARTS = {"good", "amount", "taste", "presents"};
    private static final String[] ELSEWHERE = {"pass", "give", "pull", "wait", "down", "with", "of", "to", "by", "Liking", "likin",
        "likings", "l", "UP"};

    public static void main(String[] args) {
        emptyTexts();
        noSuchText();
        aFaultChangesNoLaw();
        tapeIsEmptyThen();
        faultOfTheLatestText();
        sixteenLines();
        numbersOfFourDigits();
        endOfTheText();
        partsByZero();
        eightOpen();
        openOnesThatAreClosed();
        openOnesLineByLine();
        firstFaultByPlace();
        leastFaultAtOnePlace();
        wordsOfEachLaw();
        wordsThatBeginLines();
        blanks();
        signsThatCantStand();
        lettersAndDigitsTogether();
        comparisons();
        joints();
        intsThatWrap();
        partsTowardsZero();
        firstLineThatIsSo();
        factsOfGates();
        factsThatChange();
        factsOfBothBoats();
        factsOfHearts();
        longestTexts();
        delightIsHeld();
        tasteWithoutALine();
        Check.finish("LawBoundsTest");
    }

    /** Two locks, a boat in the middle with ten of each good. */
    private static LockWives canal(String part) {
        Check.part(part);
        LockWives x = new LockWives();
        Check.due("canal", x.canal(2), true);
        Check.due("boat", x.boat(1, 10, 2), 0);
        for (int good = 0; good < 4; good++) {
            x.load(0, 10 + good, 10);
        }
        return x;
    }

    private static void right(LockWives x, int which, String text, int lines) {
        Check.due("text " + text, Check.text(x, which, text), lines);
        Check.due("no fault in " + text, x.fault(0), 0);
        Check.due("no place in " + text, x.fault(1), NONE);
        Check.due("lines of " + text, x.look(6 + which), lines);
    }

    /** Whether the keeper of lock 1 finds it so: she lets the boat down by this alone. */
    private static void so(LockWives x, String b, boolean want) {
        right(x, 0, "let when " + b + ";hold;", 2);
        Check.due(b, x.pass(0, false, NONE), want ? 1 : -3);
        if (want) {
            Check.due("undo", x.undo(), true);
        }
    }

    // ---- the text as a whole

    private static void emptyTexts() {
        LockWives x = canal("11: a text may be empty");
        for (int which = 0; which < 3; which++) {
            right(x, which, "", 0);
            right(x, which, " ", 0);
            right(x, which, "\n", 0);
        }
        right(x, 0, "hold;", 1);
        Check.due("held", x.pass(0, false, NONE), -3);
        right(x, 0, "", 0);
        Check.due("let by an empty law", x.pass(0, false, NONE), 1);
        right(x, 1, "like 5;", 1);
        Check.due("liked", x.give(0, 0, 1, 1), 5);
        right(x, 1, "", 0);
        Check.due("TASTE by an empty law", x.give(0, 0, 1, 1), 0);
    }

    private static void noSuchText() {
        LockWives x = canal("11: NONE, no such one, fault() tells 0");
        right(x, 0, "hold;", 1);
        for (int which : new int[] {-1, 3, 4, Integer.MIN_VALUE, Integer.MAX_VALUE}) {
            Check.due("a fault", Check.text(x, 0, "?"), NONE);
            Check.due("a fault", x.fault(0), 1);
            Check.due("no such text", Check.text(x, which, "let;let;"), NONE);
            Check.due("fault", x.fault(0), 0);
            Check.due("place", x.fault(1), NONE);
            Check.due("empty then", x.end(1), false);
            Check.due("GATES stay", x.look(6), 1);
            Check.due("HEARTS stay", x.look(7), 0);
            Check.due("THE PLAN stays", x.look(8), 0);
        }
        Check.due("GATES stay", x.pass(0, false, NONE), -3);
    }

    private static void aFaultChangesNoLaw() {
        LockWives x = canal("11: with a FAULT it stays as it was");
        right(x, 0, "let when up=1;hold;", 2);
        right(x, 1, "like 7;", 1);
        String[] gates = {"let;let;let", "let when 1/0=1;", Check.repeat("let;", 17), "let;?"};
        for (String text : gates) {
            Check.due(text, Check.text(x, 0, text), NONE);
            Check.due("lines", x.look(6), 2);
            Check.due("held", x.pass(0, false, NONE), -3);
            Check.due("let", x.pass(0, true, NONE), 0);
            Check.due("undo", x.undo(), true);
        }
        String[] hearts = {"like 1;like 2;like", "like 1/0;", Check.repeat("like 1;", 17), "like 1;?"};
        for (String text : hearts) {
            Check.due(text, Check.text(x, 1, text), NONE);
            Check.due("lines", x.look(7), 1);
            Check.due("liked", x.give(0, 0, 1, 1), 7);
        }
    }

    private static void tapeIsEmptyThen() {
        LockWives x = canal("11: the TAPE is empty then");
        String[] texts = {"let;", "like 1;", "wait 1;"};
        for (int which = 0; which < 3; which++) {
            right(x, which, texts[which], 1);
            Check.due("empty", x.end(1), false);
            Check.due("feed", x.feed(0, 0, 0, 0, 0), 20);
            Check.due("a fault", x.text(which), NONE);
            Check.due("empty", x.end(1), false);
            Check.due("feed", x.feed(0, 0, 0, 0, 0), 20);
            Check.due("end", x.end(0), true);
        }
    }

    private static void faultOfTheLatestText() {
        LockWives x = canal("12: of the latest text(); NONE for another what");
        Check.due("a fault", Check.text(x, 0, "let when 1/0=1;"), NONE);
        x.feed(0, 0, 0, 0, 0);
        x.end(0);
        x.pull(0, 1);
        x.undo();
        Check.due("still the latest", x.fault(0), 2);
        Check.due("still the latest", x.fault(1), 11);
        Check.beyond("fault", 0, 1, x::fault, NONE);
        right(x, 1, "", 0);
        Check.beyond("fault", 0, 1, x::fault, NONE);
    }

    private static void sixteenLines() {
        LockWives x = canal("12: FAULT 3 at the KEYWORD of the 17th line");
        right(x, 0, Check.repeat("let;", 15) + "hold;", 16);
        Check.faulty(x, 0, Check.repeat("let;", 16) + "let;", 3, 64);
        Check.faulty(x, 0, Check.repeat("hold;", 16) + " \n hold;", 3, 83);
        Check.faulty(x, 0, Check.repeat("let;", 16) + "hold", 3, 64);
        Check.faulty(x, 0, Check.repeat("let;", 40), 3, 64);
        right(x, 0, Check.repeat("let;", 16) + " \n", 16);
        right(x, 1, Check.repeat("like 1;", 16), 16);
        Check.faulty(x, 1, Check.repeat("like 1;", 16) + "like 1;", 3, 112);
        Check.faulty(x, 1, Check.repeat("like 1;", 16) + " like", 3, 113);
        // the sixteenth line is one that counts
        right(x, 0, Check.repeat("let when 1=2;", 15) + "hold;", 16);
        Check.due("held by the last line", x.pass(0, false, NONE), -3);
        right(x, 1, Check.repeat("like 1 when 1=2;", 15) + "like 9;", 16);
        Check.due("liked by the last line", x.give(0, 0, 1, 1), 9);
    }

    // ---- numbers, the end, parts

    private static void numbersOfFourDigits() {
        LockWives x = canal("2: NUMBERS of 1 to 4 digits");
        for (String number : new String[] {"0", "9", "00", "99", "000", "999", "0000", "9999"}) {
            right(x, 0, "let when " + number + "=" + number + ";", 1);
            right(x, 1, "like " + number + ";", 1);
        }
        for (String number : new String[] {"00000", "10000", "99999", "12345678901234567890"}) {
            Check.faulty(x, 0, "let when " + number + "=1;", 1, 9);
            Check.faulty(x, 0, "let when 1=" + number + ";", 1, 11);
            Check.faulty(x, 0, "let when 1/" + number + "=1;", 1, 11);
            Check.faulty(x, 1, "like " + number + ";", 1, 5);
        }
        so(x, "9999=9998+1", true);
        so(x, "0042=42", true);
        Check.faulty(x, 0, "let when 1 000 = 1;hold;", 1, 11);
    }

    private static void endOfTheText() {
        LockWives x = canal("2: FAULT 1 at the end has the text's length as its place");
        String whole = "let when liking + 1 * 2 / 3 < 4 and not ( mood = 5 or hour > 6 ) ;";
        right(x, 0, whole, 1);
        for (int length = 1; length < whole.length(); length++) {
            // what is cut within a word has its fault at that word
            boolean within = Character.isLetter(whole.charAt(length - 1)) && Character.isLetter(whole.charAt(length));
            if (!within) {
                Check.faulty(x, 0, whole.substring(0, length), 1, length);
            }
        }
        Check.faulty(x, 0, "let   ", 1, 6);
        Check.faulty(x, 0, "let\n", 1, 4);
        Check.faulty(x, 1, "like 1", 1, 6);
        Check.faulty(x, 1, "like 1 when 1=1 ", 1, 16);
        Check.faulty(x, 0, "let" + Check.repeat(" ", 397), 1, 400);
        Check.faulty(x, 0, "let" + Check.repeat(" ", 396), 1, 399);
        x = canal("2: what ends with the 400th byte");
        Check.faulty(x, 0, Check.repeat(" ", 397) + "let", 1, 400);
        Check.faulty(x, 0, Check.repeat(" ", 397) + "hol", 1, 397);
        Check.faulty(x, 1, Check.repeat(" ", 397) + "lik", 1, 397);
        Check.faulty(x, 1, "like" + Check.repeat(" ", 395) + "1", 1, 400);
        Check.faulty(x, 1, "like" + Check.repeat(" ", 390) + "liking", 1, 400);
        right(x, 1, "like" + Check.repeat(" ", 389) + "liking;", 1);
        right(x, 0, Check.repeat(" ", 396) + "let;", 1);
    }

    private static void partsByZero() {
        LockWives x = canal("2: FAULT 2 at the NUMBER of a part by 0");
        for (String zero : new String[] {"0", "00", "000", "0000"}) {
            Check.faulty(x, 0, "let when 1/" + zero + "=1;", 2, 11);
            Check.faulty(x, 0, "let when 1=1/ " + zero + ";", 2, 14);
            Check.faulty(x, 1, "like 1 / " + zero + ";", 2, 9);
        }
        for (String one : new String[] {"1", "01", "001", "0001", "9999"}) {
            right(x, 0, "let when 1/" + one + "=1;", 1);
            right(x, 1, "like 1/" + one + ";", 1);
        }
        Check.faulty(x, 1, "like 6/2/0;", 2, 9);
        Check.faulty(x, 1, "like 1/liking;", 1, 7);
        Check.faulty(x, 1, "like 1/;", 1, 7);
        Check.faulty(x, 1, "like 1/", 1, 7);
        right(x, 1, "like 0/1*0;", 1);
    }

    // ---- what is open

    private static void eightOpen() {
        LockWives x = canal("2: FAULT 3 at the 9th ( or not that is open");
        right(x, 0, "let when " + Check.repeat("(", 8) + "1=1" + Check.repeat(")", 8) + ";", 1);
        right(x, 0, "let when " + Check.repeat("not ", 8) + "1=1;", 1);
        right(x, 0, "let when " + Check.repeat("not(", 4) + "1=1" + Check.repeat(")", 4) + ";", 1);
        right(x, 0, "let when " + Check.repeat("(not ", 4) + "1=1" + Check.repeat(")", 4) + ";", 1);
        Check.faulty(x, 0, "let when " + Check.repeat("(", 9) + "1=1" + Check.repeat(")", 9) + ";", 3, 17);
        Check.faulty(x, 0, "let when " + Check.repeat("not ", 9) + "1=1;", 3, 41);
        Check.faulty(x, 0, "let when " + Check.repeat("not(", 4) + "not 1=1" + Check.repeat(")", 4) + ";", 3, 25);
        Check.faulty(x, 0, "let when " + Check.repeat("(not ", 4) + "(1=1)" + Check.repeat(")", 4) + ";", 3, 29);
        Check.faulty(x, 0, "let when " + Check.repeat("(", 8) + "not", 3, 17);
        Check.faulty(x, 0, "let when " + Check.repeat("not ", 8) + "(", 3, 41);
        Check.faulty(x, 0, "let when " + Check.repeat("(", 9), 3, 17);
        Check.faulty(x, 0, "let when " + Check.repeat("(", 300), 3, 17);
        right(x, 1, "like 1 when " + Check.repeat("(", 8) + "1=1" + Check.repeat(")", 8) + ";", 1);
        Check.faulty(x, 1, "like 1 when " + Check.repeat("(", 9) + "1=1" + Check.repeat(")", 9) + ";", 3, 20);
        so(x, Check.repeat("not ", 8) + "1=1", true);
        so(x, Check.repeat("not ", 7) + "1=1", false);
        so(x, Check.repeat("(", 8) + "1=2" + Check.repeat(")", 8), false);
    }

    private static void openOnesThatAreClosed() {
        LockWives x = canal("2: what is closed is not open");
        String eight = Check.repeat("(", 8) + "1=1" + Check.repeat(")", 8);
        String eightNots = Check.repeat("not ", 8) + "1=1";
        right(x, 0, "let when " + eight + " and " + eight + " or " + eight + ";", 1);
        right(x, 0, "let when " + eightNots + " and " + eightNots + " or " + eightNots + ";", 1);
        right(x, 0, "let when " + eightNots + " or " + eight + " and " + eightNots + ";", 1);
        Check.faulty(x, 0, "let when " + eightNots + " or " + Check.repeat("(", 9), 3, 48 + 8);
        right(x, 0, "let when not(1=1 and " + Check.repeat("(", 6) + "1=1" + Check.repeat(")", 6) + ");", 1);
        Check.faulty(x, 0, "let when not(1=1 and " + Check.repeat("(", 7) + "1=1", 3, 27);
        right(x, 0, "let when (1=1)and(1=1)and(1=1)and(1=1)and(1=1)and(1=1)and(1=1)and(1=1)and(1=1)and(1=1);", 1);
        right(x, 0, "let when not 1=1 and not 1=1 and not 1=1 and not 1=1 and not 1=1 and not 1=1 and not 1=1 and not 1=1 and not 1=1;", 1);
    }

    private static void openOnesLineByLine() {
        LockWives x = canal("2: each line begins with none open");
        String line = "let when " + Check.repeat("(", 8) + "1=1" + Check.repeat(")", 8) + ";";
        right(x, 0, Check.repeat(line, 10), 10);
        right(x, 0, Check.repeat("let when not not not not not not not not 1=1;", 8), 8);
    }

    // ---- which fault is told

    private static void firstFaultByPlace() {
        LockWives x = canal("2: of FAULTS the first by its place");
        Check.faulty(x, 0, "let when 1/0=1 ? 1;", 2, 11);
        Check.faulty(x, 0, "let when 1?/0=1;", 1, 10);
        Check.faulty(x, 0, "let when 1/0=1 and (((((((((1=1;", 2, 11);
        Check.faulty(x, 0, "let when (((((((((1/0=1;", 3, 17);
        Check.faulty(x, 0, "let when ((((((((1/0=1;", 2, 19);
        Check.faulty(x, 0, "let when 1/0=1;" + Check.repeat("let;", 16), 2, 11);
        Check.faulty(x, 0, Check.repeat("let;", 16) + "let when 1/0=1;", 3, 64);
        Check.faulty(x, 0, Check.repeat("let;", 15) + "let when 1/0=1;let;", 2, 71);
        Check.faulty(x, 0, Check.repeat("let;", 15) + "let when 1?;let;", 1, 70);
        Check.faulty(x, 0, "let;let hold;?", 1, 8);
        Check.faulty(x, 0, "let;?;let when 1/0=1;", 1, 4);
    }

    private static void leastFaultAtOnePlace() {
        LockWives x = canal("2: at one place the least FAULT");
        for (String no : new String[] {"like", "when", "1", ";", "(", "?", "x", "12345"}) {
            Check.faulty(x, 0, Check.repeat("let;", 16) + no, 1, 64);
        }
        Check.faulty(x, 1, Check.repeat("like 1;", 16) + "let", 1, 112);
        // with eight open what can't stand there is no ninth
        Check.faulty(x, 0, "let when " + Check.repeat("(", 8) + "1+(", 1, 19);
        Check.faulty(x, 0, "let when " + Check.repeat("(", 8) + "1=not", 1, 19);
        Check.faulty(x, 0, "let when " + Check.repeat("(", 8) + "1(", 1, 18);
        Check.faulty(x, 0, "let when " + Check.repeat("(", 8) + ")", 1, 17);
        Check.faulty(x, 0, "let when " + Check.repeat("(", 8) + "?", 1, 17);
        Check.faulty(x, 0, "let when 1/00000=1;", 1, 11);
    }

    // ---- tokens

    private static void wordsOfEachLaw() {
        LockWives x = canal("2: KEYWORDS are those told for that LAW");
        for (String word : OF_BOTH) {
            right(x, 0, "let when " + word + "=1;", 1);
            right(x, 1, "like " + word + " when 1=" + word + ";", 1);
        }
        for (String word : OF_GATES) {
            right(x, 0, "let when 1=" + word + ";", 1);
            Check.faulty(x, 1, "like " + word + ";", 1, 5);
            Check.faulty(x, 1, "like 1 when 1=" + word + ";", 1, 14);
        }
        for (String word : OF_HEARTS) {
            right(x, 1, "like 1+" + word + ";", 1);
            Check.faulty(x, 0, "let when " + word + "=1;", 1, 9);
            Check.faulty(x, 0, "let when 1=" + word + ";", 1, 11);
        }
        x = canal("2: KEYWORDS are those told for that LAW, not others");
        for (String word : ELSEWHERE) {
            Check.faulty(x, 0, "let when " + word + "=1;", 1, 9);
            Check.faulty(x, 1, "like 1*" + word + ";", 1, 7);
        }
    }

    private static void wordsThatBeginLines() {
        LockWives x = canal("2: {(let | hold) [when B] ;} and {like E [when B] ;}");
        for (String word : new String[] {"like", "when", "and", "or", "not", "liking", "pass", "lets", "le", "et", "Let", "LET", "holds",
            "hol", "old"}) {
            Check.faulty(x, 0, word + ";", 1, 0);
            Check.faulty(x, 0, "let;" + word + ";", 1, 4);
        }
        for (String word : new String[] {"let", "hold", "when", "liking", "likes", "lik", "ike", "Like"}) {
            Check.faulty(x, 1, word + " 1;", 1, 0);
        }
        Check.faulty(x, 0, "let let;", 1, 4);
        Check.faulty(x, 0, "let 1=1;", 1, 4);
        Check.faulty(x, 0, "let;;", 1, 4);
        Check.faulty(x, 0, "let when when 1=1;", 1, 9);
        Check.faulty(x, 0, "let when 1=1 when 1=1;", 1, 13);
        Check.faulty(x, 0, "let when 1=1 hold;", 1, 13);
        Check.faulty(x, 1, "like when 1=1;", 1, 5);
        Check.faulty(x, 1, "like 1 2;", 1, 7);
        Check.faulty(x, 1, "like 1 when;", 1, 11);
        Check.faulty(x, 1, "like 1+;", 1, 7);
        Check.faulty(x, 1, "like +1;", 1, 5);
        Check.faulty(x, 1, "like 1--1;", 1, 7);
        Check.faulty(x, 1, "like not 1;", 1, 5);
    }

    private static void blanks() {
        LockWives x = canal("2: Blanks are 32 and 10");
        right(x, 0, " \n let\nwhen \n1 = 1\n;\n ", 1);
        right(x, 0, "let when 1=1;hold;", 2);
        for (int sign = 0; sign < 256; sign++) {
            if (sign == 32 || sign == 10) {
                continue;
            }
            if (sign == 128) {
                x = canal("2: Blanks are 32 and 10");
            }
            Check.due("feed", x.feed(sign << 24 | 0x6c6574, 0x3b202020, 0x20202020, 0x20202020, 0x20202020), 20);
            Check.due("sign " + sign, x.text(0), NONE);
            Check.due("its place", x.fault(1), 0);
        }
        Check.due("feed", x.feed(0x0a6c6574, 0x3b202020, 0x20202020, 0x20202020, 0x20202020), 20);
        Check.due("10 is one", x.text(0), 1);
    }

    private static void signsThatCantStand() {
        Check.part("2: signs are ; + - * / ( ) < = >");
        String signs = ";+-*/()<=>";
        LockWives x = null;
        for (int sign = 33; sign < 256; sign++) {
            if (sign % 32 == 1) {
                x = canal("2: signs are ; + - * / ( ) < = >");
            }
            char c = (char) sign;
            boolean letter = c >= 'a' && c <= 'z' || c >= 'A' && c <= 'Z';
            boolean digit = c >= '0' && c <= '9';
            if (x == null || letter || digit) {
                continue;
            }
            // behind 1 stands what joins or compares, and nothing else
            boolean joins = "+-*/<=>".indexOf(c) >= 0;
            Check.due("text", Check.text(x, 0, "let when 1" + c + "1=1;"), joins && "<=>".indexOf(c) < 0 ? 1 : NONE);
            int place = "<=>".indexOf(c) >= 0 ? 12 : 10;
            Check.due("place of " + sign, x.fault(1), joins && "<=>".indexOf(c) < 0 ? NONE : place);
            Check.due("text", Check.text(x, 0, "let" + c), c == ';' ? 1 : NONE);
            Check.due("place of " + sign, x.fault(1), c == ';' ? NONE : 3);
            Check.due("a sign of the laws", signs.indexOf(c) >= 0, joins || c == ';' || c == '(' || c == ')');
        }
    }

    private static void lettersAndDigitsTogether() {
        LockWives x = canal("2: letters, digits as many as stand together");
        right(x, 0, "let when 1=1and 2=2or 3=3;", 1);
        right(x, 0, "let when 1=liking;", 1);
        right(x, 0, "let when not(1=1)and(2=2)or(3=3);", 1);
        Check.faulty(x, 0, "letwhen 1=1;", 1, 0);
        Check.faulty(x, 0, "let when 1=1andnot 1=1;", 1, 12);
        Check.faulty(x, 0, "let when likingmood=1;", 1, 9);
        Check.faulty(x, 0, "let when lik ing=1;", 1, 9);
        Check.faulty(x, 0, "let when 1=1 an d 1=1;", 1, 13);
        Check.faulty(x, 0, "let when 12 34=1;", 1, 12);
        Check.faulty(x, 0, "let when 12liking=1;", 1, 11);
        Check.faulty(x, 0, "let when liking12=1;", 1, 15);
        Check.faulty(x, 0, "let when 1=1not 1=1;", 1, 12);
    }

    // ---- what a law answers

    private static void comparisons() {
        LockWives x = canal("2: < = > just below, at and above");
        x.lock(1, 20, 5);
        String[] signs = {"<", "=", ">"};
        for (int v = 4; v <= 6; v++) {
            for (String sign : signs) {
                boolean want = sign.equals("<") ? 5 < v : sign.equals("=") ? v == 5 : 5 > v;
                so(x, "liking" + sign + v, want);
            }
        }
        for (int v : new int[] {-99, 99}) {
            x.lock(1, 20, v);
            so(x, "liking=" + (v < 0 ? "0-99" : "99"), true);
            so(x, "liking<0-98", v < 0);
            so(x, "liking>98", v > 0);
        }
    }

    private static void joints() {
        LockWives x = canal("2: B = A {or A}, A = C {and C}, C = .. not C");
        String[] c = {"1=2", "1=1"};
        for (int i = 0; i < 8; i++) {
            boolean p = (i & 1) == 1;
            boolean q = (i & 2) == 2;
            boolean r = (i & 4) == 4;
            String[] b = {c[i & 1], c[i >> 1 & 1], c[i >> 2]};
            so(x, b[0] + " or " + b[1] + " and " + b[2], p || q && r);
            so(x, b[0] + " and " + b[1] + " or " + b[2], p && q || r);
            so(x, "not " + b[0] + " and " + b[1] + " or " + b[2], !p && q || r);
            so(x, "not(" + b[0] + " or " + b[1] + ")and " + b[2], !(p || q) && r);
            so(x, "(" + b[0] + " or " + b[1] + ")and not " + b[2], (p || q) && !r);
        }
    }

    private static void intsThatWrap() {
        LockWives x = canal("2: Ints, which wrap");
        // 9999 * 9999 = 99980001; times 21 it is below 2147483648, times 22 above
        so(x, "9999*9999*21>0", true);
        so(x, "9999*9999*22<0", true);
        // what is wanting to 2147483647 then is 47903626 = 4790 * 9999 + 8416
        so(x, "9999*9999*21+4790*9999+8416>0", true);
        so(x, "9999*9999*21+4790*9999+8416+1<0", true);
        so(x, "0-9999*9999*21-4790*9999-8416-1<0", true);
        so(x, "0-9999*9999*21-4790*9999-8416-2>0", true);
        so(x, "9999*9999*21+4790*9999+8416=0-9999*9999*21-4790*9999-8416-2", true);
        so(x, "256*256*256*256=0", true);
        so(x, "256*256*256*128<0", true);
        so(x, "256*256*256*128/2<0", true);
        right(x, 1, "like 9999*9999*22;", 1);
        Check.due("wrapped, then held", x.give(0, 0, 1, 1), -99);
        right(x, 1, "like 0-9999*9999*22;", 1);
        Check.due("wrapped, then held", x.give(0, 0, 1, 1), 99);
        right(x, 1, "like 256*256*256*256+1;", 1);
        Check.due("wrapped to 1", x.give(0, 0, 1, 1), 1);
    }

    private static void partsTowardsZero() {
        LockWives x = canal("2: / goes towards 0");
        int[] likings = {-7, -6, -5, -1, 0, 1, 5, 6, 7};
        int[] thirds = {-2, -2, -1, 0, 0, 0, 1, 2, 2};
        for (int i = 0; i < likings.length; i++) {
            x.lock(1, 20, likings[i]);
            x.load(0, 10, 10);
            right(x, 1, "like liking/3;", 1);
            Check.due(likings[i] + " / 3", x.give(0, 0, 1, 1), thirds[i]);
            x.undo();
            right(x, 1, "like 0-20+liking/3*3;", 1);
            Check.due("20 less and thrice that", x.give(0, 0, 1, 1), -20 + 3 * thirds[i]);
        }
        right(x, 1, "like 99/9999;", 1);
        Check.due("by the greatest", x.give(0, 1, 1, 1), 0);
        right(x, 1, "like 9999/9999;", 1);
        Check.due("by the greatest", x.give(0, 1, 1, 1), 1);
        right(x, 1, "like 98/1;", 1);
        Check.due("by 1", x.give(0, 1, 1, 1), 98);
        right(x, 1, "like 90/3/3*2-1;", 1);
        Check.due("from the left", x.give(0, 1, 1, 1), 19);
    }

    private static void firstLineThatIsSo() {
        LockWives x = canal("2: the first line whose B is so, or that has none; yes without one");
        String[] gates = {"hold when 1=2;", "let when 1=2;", "let;hold;", "hold;let;", "hold when 1=2;let when 1=2;hold;",
            "let when 1=1;hold when 1=1;", "hold when 1=1;let when 1=1;", "hold when 1=2;hold when 2=3;"};
        boolean[] lets = {true, true, true, false, false, true, false, true};
        for (int i = 0; i < gates.length; i++) {
            Check.due(gates[i], Check.text(x, 0, gates[i]) > 0, true);
            Check.due(gates[i], x.pass(0, false, NONE), lets[i] ? 1 : -3);
            if (lets[i]) {
                x.undo();
            }
        }
        x.lock(1, 10, 4);
        String[] hearts = {"like 1 when 1=2;", "like 1;like 2;", "like 1 when 1=2;like 2;", "like 1 when 1=2;like 2 when 1=2;",
            "like 0;", "like 1 when 1=1;like 2;"};
        int[] d = {12, 1, 2, 12, 0, 1};
        for (int i = 0; i < hearts.length; i++) {
            Check.due(hearts[i], Check.text(x, 1, hearts[i]) > 0, true);
            Check.due(hearts[i], x.give(0, 0, 3, 1), d[i]);
            x.undo();
        }
    }

    /** Just as much as it is, neither one more nor one less. */
    private static void is(LockWives x, String fact, boolean up, int v) {
        String number = v < 0 ? "0-" + -v : "" + v;
        right(x, 0, "let when " + fact + "=" + number + ";hold;", 2);
        Check.due(fact + " is " + v, x.pass(0, up, NONE) >= 0, true);
        Check.due("undo", x.undo(), true);
        right(x, 0, "hold when " + fact + "=" + number + ";", 1);
        Check.due(fact + " is " + v, x.pass(0, up, NONE), -3);
    }

    private static LockWives facts() {
        LockWives x = canal("2: what of GATES is liking, mood, rival, lock, hour, draught, above, below, up, passes, two");
        x.boat(1, 20, 1);
        x.lock(0, 20, -99);
        x.lock(1, 20, 99);
        x.lock(0, 21, 50);
        x.lock(1, 21, 51);
        x.lock(0, 3, 99);
        x.lock(1, 3, -99);
        return x;
    }

    private static void factsOfGates() {
        for (boolean up : new boolean[] {true, false}) {
            LockWives x = facts();
            is(x, "rival", up, 0);
            x.lock(0, 4, 1);
            x.lock(1, 4, 0);
            x.pool(0, 999);
            x.pool(1, 998);
            x.pool(2, 997);
            x.load(0, 1, 99);
            is(x, "liking", up, up ? -99 : 99);
            is(x, "rival", up, up ? 99 : -99);
            is(x, "mood", up, up ? 99 : -99);
            is(x, "lock", up, up ? 0 : 1);
            is(x, "hour", up, 0);
            is(x, "draught", up, 99);
            is(x, "above", up, up ? 999 : 998);
            is(x, "below", up, up ? 998 : 997);
            is(x, "up", up, up ? 1 : 0);
            is(x, "passes", up, 0);
            is(x, "two", up, 0);
        }
    }

    private static void factsThatChange() {
        LockWives x = facts();
        x.pass(1, true, NONE);
        x.pass(1, false, NONE);
        x.pass(1, false, NONE);
        is(x, "passes", true, 2);
        is(x, "passes", false, 1);
        x.hours(7);
        is(x, "hour", true, 7);
        is(x, "mood", true, 92);
        x.load(0, 1, 10);
        x.pool(0, 100);
        x.pool(1, 89);
        is(x, "below", true, 89);
        x.pool(2, 0);
        is(x, "below", false, 0);
        is(x, "draught", false, 10);
    }

    private static void factsOfBothBoats() {
        LockWives x = canal("2: of two each is asked for by what is its own");
        x.boat(1, 20, 1);
        x.lock(1, 20, 7);
        x.lock(1, 21, 8);
        x.lock(0, 20, 17);
        x.lock(0, 21, 18);
        x.lock(1, 4, 0);
        String[] facts = {"liking=7", "liking=8", "rival=17", "rival=18", "draught=10", "draught=20"};
        for (int i = 0; i < facts.length; i++) {
            right(x, 0, "hold when " + facts[i] + ";", 1);
            for (int boat = 0; boat < 2; boat++) {
                Check.due(facts[i] + ", boat " + boat + " first", x.pass(boat, false, 1 - boat), -3);
                Check.due(facts[i] + ", boat " + boat + " alone", x.pass(boat, false, NONE), i % 2 == boat ? -3 : 1);
                x.undo();
            }
        }
        right(x, 0, "let when two=1;hold;", 2);
        Check.due("two is 1 for both", x.pass(0, false, 1), 1);
        x.undo();
        right(x, 0, "let when passes=0 and up=0 and above=100 and below=100;hold;", 2);
        Check.due("nothing has flowed yet for the other one", x.pass(0, false, 1), 1);
    }

    private static void factsOfHearts() {
        LockWives x = canal("2: what of HEARTS is liking, mood, rival, lock, hour, good, amount, taste, presents");
        x.boat(1, 20, 1);
        for (int lock = 0; lock < 2; lock++) {
            int k = 1 - lock;
            int[] told = {k == 0 ? 77 : -66, k == 0 ? 55 : -44, k, 3, 9, k == 0 ? -9 : 9, 0};
            String[] facts = {"liking", "mood", "lock", "good", "amount", "taste", "presents"};
            x.lock(k, 20, told[0]);
            x.lock(k, 3, told[1]);
            x.lock(k, 13, told[5]);
            for (int i = 0; i < facts.length; i++) {
                right(x, 1, "like " + facts[i] + ";", 1);
                Check.due(facts[i] + " of lock " + k, x.give(0, 3, 9, k), told[i]);
                Check.due("undo", x.undo(), true);
            }
            right(x, 1, "like rival;", 1);
            Check.due("no rival", x.give(0, 3, 9, k), 0);
            Check.due("undo", x.undo(), true);
        }
        right(x, 1, "like rival;", 1);
        x.lock(0, 4, 1);
        x.lock(1, 4, 0);
        x.lock(0, 21, 33);
        Check.due("her rival's liking", x.give(0, 3, 9, 0), -66);
        Check.due("undo", x.undo(), true);
        x.lock(0, 20, 77);
        Check.due("her rival's liking", x.give(0, 3, 9, 1), 77);
        x.load(1, 12, 9);
        Check.due("of this boat", x.give(1, 2, 9, 1), 33);
        x.hours(11);
        right(x, 1, "like hour;", 1);
        Check.due("hour", x.give(0, 0, 1, 0), 11);
        right(x, 1, "like presents;", 1);
        Check.due("ahead of this one one", x.give(0, 0, 1, 0), 1);
        Check.due("two", x.give(0, 0, 1, 0), 2);
        Check.due("of the other lock two", x.give(0, 0, 1, 1), 2);
        right(x, 1, "like good;", 1);
        for (int good = 0; good < 4; good++) {
            x.load(0, 10 + good, 99);
            Check.due("good", x.give(0, good, 1, 0), good);
        }
        right(x, 1, "like amount;", 1);
        for (int amount : new int[] {1, 2, 95}) {
            Check.due("amount", x.give(0, 2, amount, 0), amount);
        }
    }

    private static void longestTexts() {
        LockWives x = canal("9, 11: a text of 400 bytes");
        String sum = "like 1" + Check.repeat("+1", 196) + ";";
        right(x, 1, sum, 1);
        right(x, 1, sum + " ", 1);
        Check.due("held", x.give(0, 0, 1, 1), 99);
        right(x, 1, "like 1" + Check.repeat("-1", 40) + Check.repeat("+1", 90) + Check.repeat("*1", 66) + ";", 1);
        Check.due("added", x.give(0, 0, 1, 1), 51);
        right(x, 1, "like 9999" + Check.repeat("/1", 194) + "/9;", 1);
        Check.due("parted", x.give(0, 0, 1, 1), 99);
        right(x, 0, "hold when 1=2" + Check.repeat(" or 1=2", 54) + "or 1=1;", 1);
        Check.due("held by the last", x.pass(0, false, NONE), -3);
        right(x, 0, "hold when 1=1" + Check.repeat("and 1=1", 54) + "and 1=2;", 1);
        Check.due("let by the last", x.pass(0, false, NONE), 1);
        String sixteen = Check.repeat("hold when mood>liking+1;", 15) + "hold when not mood<1;";
        right(x, 0, sixteen + Check.repeat(" ", 400 - sixteen.length()), 16);
    }

    private static void delightIsHeld() {
        LockWives x = canal("14: D is held to -99 to 99");
        String[] e = {"98", "99", "100", "9999", "0-98", "0-99", "0-100", "0-9999", "0"};
        int[] d = {98, 99, 99, 99, -98, -99, -99, -99, 0};
        for (int i = 0; i < e.length; i++) {
            right(x, 1, "like " + e[i] + ";", 1);
            Check.due("like " + e[i], x.give(0, 0, 1, 1), d[i]);
            Check.due("LIKING", x.at(1, 20), d[i]);
            Check.due("MOOD", x.at(1, 3), Integer.signum(d[i]));
            Check.due("undo", x.undo(), true);
        }
    }

    private static void tasteWithoutALine() {
        LockWives x = canal("14: none: TASTE times the amount, held");
        x.load(0, 10, 99);
        x.load(0, 11, 99);
        int[][] gifts = {{9, 11, 99}, {9, 12, 99}, {9, 10, 90}, {-9, 11, -99}, {-9, 12, -99}, {-9, 10, -90}, {9, 99, 99}, {-9, 99, -99},
            {1, 99, 99}, {-1, 99, -99}, {1, 98, 98}, {0, 99, 0}, {1, 1, 1}, {-1, 1, -1}};
        for (int[] gift : gifts) {
            x.lock(1, 10, gift[0]);
            Check.due("taste " + gift[0] + " times " + gift[1], x.give(0, 0, gift[1], 1), gift[2]);
            Check.due("undo", x.undo(), true);
        }
    }
}
