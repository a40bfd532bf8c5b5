/** Terms, part 2: every edge that the document names for TEXTS, their FAULTS, their values and NAMES. */
public final class TextEdgesTest {
    private static final int GOOD = -1;
    private static final String[] NAMES = {"port", "day", "ship", "here", "late", "stayed", "full", "kind", "room",
        "weight", "worth", "freight", "waits"};
    private static final int GREATEST = Integer.MAX_VALUE;
    private static final int LEAST = Integer.MIN_VALUE;
    private static final String GREATEST_TEXT = "(32768*65535+32767)";
    private static final String LEAST_TEXT = "(-32768*65535-32768)";

    public static void main(String[] args) {
        numbersOf1To5Digits();
        namesAreWholeWords();
        wordsGoOnAsFarAsLettersDo();
        blanksMayStandBetween();
        blanksMustStandBetween();
        everyByteAlone();
        everyByteBehindANumber();
        whereAnOperandIsDue();
        whereAnOperandHasBeenRead();
        oneComparisonAlone();
        theLongestText();
        twelveAreOpen();
        twelveOpenOnesOfTwoSorts();
        closedOnesAreNotOpen();
        faultsFromTheFirstToTheLastPlace();
        theFirstFaultIsTold();
        valuesWrap();
        comparisonsAtTheirEdges();
        whatIsNot0IsTrue();
        signsBindAsTheyAreWritten();
        namesOfStay();
        namesOfLade();
        namesOfWait();
        withoutAnyVote();
        Due.end();
    }

    private static void fault(String text, int place) {
        int answer = Due.vote(new GalleyConvoy(), 0, text);
        Due.due("fault of '" + text + "'", answer == 1 ? GOOD : -100 - answer, place);
    }

    private static void value(String text, int want) {
        GalleyConvoy x = Due.line(1);
        x.galley(1, 1, 1, 1);
        x.start(0);
        Due.due("vote of '" + text + "'", Due.vote(x, 0, text), 1);
        Due.due("value of '" + text + "'", x.says(0, 0, 0), want);
    }

    // "a NUMBER (1 to 5 digits)"; "a NUMBER as digits".
    private static void numbersOf1To5Digits() {
        for (int digit = 0; digit <= 9; digit++) {
            value("" + digit, digit);
        }
        value("12345", 12345);
        value("99999", 99999);
        value("00000", 0);
        value("00009", 9);
        fault("123456", 0);
        fault("000000", 0);
        fault("1+999999", 2);
        fault("1+99999", GOOD);
        fault("9".repeat(200), 0);
        fault("123456 $", 0);
        fault("12345a", 5);
        fault("1 123456", 2);
    }

    private static void namesAreWholeWords() {
        for (String name : NAMES) {
            fault(name, GOOD);
            fault(name.substring(0, name.length() - 1), 0);
            fault(name + "s", 0);
            fault("x" + name, 0);
            fault(name.toUpperCase(), 0);
            fault(name.substring(0, name.length() - 1) + "S", 0);
            fault("1+" + name + name, 2);
            fault(name + " " + name, name.length() + 1);
            fault(name + "1", name.length());
            fault("1" + name, 1);
        }
    }

    // "A WORD goes on as far as letters a .. z do".
    private static void wordsGoOnAsFarAsLettersDo() {
        fault("not1", GOOD);
        fault("notday", 0);
        fault("not day", GOOD);
        fault("1or2", GOOD);
        fault("1and2", GOOD);
        fault("1orday", 1);
        fault("1or day", GOOD);
        fault("dayor 1", 0);
        fault("day or 1", GOOD);
        fault("1andnot 1", 1);
        fault("1and not 1", GOOD);
        fault("not(1)and(1)", GOOD);
        fault("a", 0);
        fault("z", 0);
        fault("1 a", 2);
        fault("1 z", 2);
        fault("day`", 3);
        fault("day{", 3);
        fault("a".repeat(200), 0);
        fault("1+" + "z".repeat(198), 2);
        fault("o", 0);
        fault("1 o", 2);
        fault("1 an", 2);
        fault("1 ands 1", 2);
        fault("no 1", 0);
        fault("nots 1", 0);
    }

    private static void blanksMayStandBetween() {
        fault("1+2*day<(-3)", GOOD);
        fault("1 + 2 * day < ( - 3 )", GOOD);
        fault("1   +   2   *   day   <   (   -   3   )", GOOD);
        fault("- - 1", GOOD);
        fault("1 - - 1", GOOD);
        fault(" 1", GOOD);
        fault("1 ", GOOD);
        fault(" ".repeat(199) + "1", GOOD);
        fault("1" + " ".repeat(199), GOOD);
        fault("1\t", 1);
        fault("1\n", 1);
        fault("1\u00a0", 1);
        fault("\t1", 0);
    }

    private static void blanksMustStandBetween() {
        // Two NUMBERS would be one, which may be too long or only another one.
        value("12", 12);
        fault("1 2", 2);
        fault("12345 6", 6);
        fault("day day", 4);
        fault("not not 1", GOOD);
        fault("notnot 1", 0);
        // Within a WORD or a NUMBER none may stand.
        fault("d ay", 0);
        fault("1 or n ot 1", 5);
        fault("1 0", 2);
    }

    private static void everyByteAlone() {
        for (int b = 0; b < 256; b++) {
            boolean digit = b >= '0' && b <= '9';
            boolean goesOn = b == '(' || b == '-' || b == ' ';
            byteFault(b, "", digit ? GOOD : goesOn ? 1 : 0);
        }
    }

    private static void everyByteBehindANumber() {
        for (int b = 0; b < 256; b++) {
            boolean ends = b >= '0' && b <= '9' || b == ' ';
            boolean goesOn = "+-*<=>".indexOf(b) >= 0;
            byteFault(b, "1", ends ? GOOD : goesOn ? 2 : 1);
        }
    }

    private static void byteFault(int b, String ahead, int place) {
        GalleyConvoy x = new GalleyConvoy();
        Due.put(x, ahead);
        x.feed(1, b);
        int answer = x.vote(0);
        Due.due("fault of byte " + b + " behind '" + ahead + "'", answer == 1 ? GOOD : -100 - answer, place);
    }

    /** A token behind some text: it ends a TEXT, or one goes on with it and ends too early, or it is the FAULT. */
    private static void next(String ahead, String token, boolean goesOn, boolean ends) {
        String text = ahead + " " + token;
        fault(text, !goesOn ? ahead.length() + 1 : ends ? GOOD : text.length());
    }

    private static void whereAnOperandIsDue() {
        String[] ahead = {"", "(", "-", "not", "1+", "1-", "1*", "1<", "1=", "1>", "1 or", "1 and", "1<1 and", "(1)or(",
            "not(", "-(", "1*-", "1+1*", "not not"};
        boolean[] notMay = {true, true, false, true, false, false, false, false, false, false, true, true, true, true,
            true, true, false, false, true};
        for (int i = 0; i < ahead.length; i++) {
            boolean bracket = ahead[i].endsWith("(");
            next(ahead[i], "5", true, !bracket);
            next(ahead[i], "day", true, !bracket);
            next(ahead[i], "-", true, false);
            next(ahead[i], "(", true, false);
            next(ahead[i], "not", notMay[i], false);
            for (String wrong : new String[] {")", "+", "*", "<", "=", ">", "or", "and", "days", "123456", "$", "\0"}) {
                next(ahead[i], wrong, false, false);
            }
        }
    }

    private static void whereAnOperandHasBeenRead() {
        String[] ahead = {"1", "day", "(1)", "-1", "not 1", "1+1", "1-1", "1*1", "1 or 1", "1 and 1", "(1<1)", "-(1)",
            "not(1)", "1<1 or 1", "(1"};
        for (String text : ahead) {
            boolean bracket = text.equals("(1");
            for (String sign : new String[] {"+", "-", "*", "<", "=", ">", "or", "and"}) {
                next(text, sign, true, false);
            }
            next(text, ")", bracket, bracket);
            for (String wrong : new String[] {"5", "day", "not", "(", "days", "123456", "$", "\0"}) {
                next(text, wrong, false, false);
            }
        }
    }

    // "C = S [ < S, = S, or > S ] (one of these)."
    private static void oneComparisonAlone() {
        for (String first : new String[] {"<", "=", ">"}) {
            for (String second : new String[] {"<", "=", ">"}) {
                next("1" + first + "1", second, false, false);
                next("not 1" + first + "1", second, false, false);
                next("0 or 1" + first + "1+1", second, false, false);
                fault("1" + first + second + "1", 2);
                fault("(1" + first + "1)" + second + "1", GOOD);
                fault("1" + first + "(1" + second + "1)", GOOD);
                fault("1" + first + "1 and 1" + second + "1", GOOD);
            }
        }
    }

    // "THE TAPE has at most 200 bytes": a sign or a NUMBER in each of them.
    private static void theLongestText() {
        value("-1" + "+1".repeat(99), 98);
        value("-1" + "*1".repeat(99), -1);
        value("1" + "-1".repeat(99) + " ", -98);
        value("not 1" + " or 1".repeat(39), 1);
        value("(".repeat(12) + "1" + "+1".repeat(87) + " " + ")".repeat(12), 88);
    }

    // "At most 12 of ( and not and - ahead of an O are open within one another."
    private static void twelveAreOpen() {
        fault("(".repeat(12) + "1" + ")".repeat(12), GOOD);
        fault("(".repeat(13) + "1" + ")".repeat(13), 12);
        fault("-".repeat(12) + "1", GOOD);
        fault("-".repeat(13) + "1", 12);
        fault("not ".repeat(12) + "1", GOOD);
        fault("not ".repeat(13) + "1", 48);
        fault("(".repeat(200), 12);
        fault("-".repeat(200), 12);
        fault("not ".repeat(50), 48);
        fault("(".repeat(12), 12);
        fault("(".repeat(12) + "1", 13);
        fault("(".repeat(12) + "1" + ")".repeat(11), 24);
        fault("(".repeat(12) + "1" + ")".repeat(13), 25);
    }

    private static void twelveOpenOnesOfTwoSorts() {
        String[] sorts = {"(", "-", "not "};
        for (String sort : sorts) {
            for (String last : sorts) {
                String eleven = sort.repeat(11);
                boolean bad = sort.equals("-") && last.equals("not ");
                String ends = sort.equals("(") ? ")".repeat(11) : "";
                String within = last.equals("(") ? "1)" : "1";
                fault(eleven + last + within + ends, bad ? 11 : GOOD);
                fault(sort.repeat(12) + last + within + ends, 12 * sort.length());
            }
        }
        fault("not (-(".repeat(3) + "1" + "))".repeat(3), GOOD);
        fault("not (-(".repeat(3) + "-1" + "))".repeat(3), 21);
        fault("not (-(".repeat(3) + "not 1" + "))".repeat(3), 21);
        fault("not (-(".repeat(3) + "(1)" + "))".repeat(3), 21);
        fault("not (-(".repeat(3) + "1-1" + "))".repeat(3), GOOD);
    }

    private static void closedOnesAreNotOpen() {
        fault("(1)+".repeat(20) + "1", GOOD);
        fault("-1-".repeat(20) + "-1", GOOD);
        fault("not 1 or ".repeat(20) + "not 1", GOOD);
        fault("not 1 and ".repeat(15) + "not 1", GOOD);
        fault("(".repeat(12) + "1" + ")".repeat(12) + "+" + "(".repeat(12) + "1" + ")".repeat(12), GOOD);
        fault("(".repeat(12) + "1" + ")".repeat(12) + "+" + "(".repeat(13), 38);
        fault("-".repeat(12) + "1*" + "-".repeat(12) + "1", GOOD);
        fault("-".repeat(12) + "1*" + "-".repeat(13) + "1", 26);
        fault("(".repeat(11) + "-1+-1*-1" + ")".repeat(11), GOOD);
        fault("(".repeat(12) + "1+-1" + ")".repeat(12), 14);
        // A not is open as far as its N goes, past a comparison.
        fault("not ".repeat(11) + "1<-1", GOOD);
        fault("not ".repeat(12) + "1<-1", 50);
        fault("not ".repeat(12) + "1<1 or -1", GOOD);
        fault("not ".repeat(12) + "1 and -1", GOOD);
    }

    private static void faultsFromTheFirstToTheLastPlace() {
        fault("", 0);
        for (int place = 0; place < 200; place++) {
            fault(" ".repeat(place) + "$", place);
            fault(" ".repeat(place) + "$" + " ".repeat(199 - place), place);
        }
        for (int length = 1; length <= 200; length++) {
            fault(" ".repeat(length), length);
            fault("(" + " ".repeat(length - 1), length);
        }
        fault("1+".repeat(100), 200);
        fault("1+".repeat(99) + "1 ", GOOD);
        fault("1+".repeat(99) + "1)", 199);
        fault("1+".repeat(99) + "dy", 198);
    }

    private static void theFirstFaultIsTold() {
        fault("1 1 $", 2);
        fault("$ 1 1", 0);
        fault("1+days+123456+$", 2);
        fault("1+123456+days", 2);
        fault("(1 2) 3", 3);
        fault("1<2<3<4", 3);
        fault("(".repeat(13) + "$", 12);
        fault("(".repeat(12) + "$" + "(", 12);
        fault("1)+(", 1);
        fault("(1", 2);
        fault("(1+", 3);
    }

    // "Values are ints that wrap".
    private static void valuesWrap() {
        value(GREATEST_TEXT, GREATEST);
        value(LEAST_TEXT, LEAST);
        value(GREATEST_TEXT + "+1", LEAST);
        value(LEAST_TEXT + "-1", GREATEST);
        value("-" + LEAST_TEXT, LEAST);
        value("-" + GREATEST_TEXT, LEAST + 1);
        value(LEAST_TEXT + "*-1", LEAST);
        value(GREATEST_TEXT + "*2", -2);
        value(LEAST_TEXT + "*2", 0);
        value("65536*65536", 0);
        value("65536*32768", LEAST);
        value("99999*99999", 1409865409);
        value("-99999*99999", -1409865409);
        // An answer may look like BAD.
        value("-20000*10000*10", -2000000000);
    }

    private static void compared(String left, String right, int less, int same, int more) {
        value(left + "<" + right, less);
        value(left + "=" + right, same);
        value(left + ">" + right, more);
    }

    private static void comparisonsAtTheirEdges() {
        compared("6", "7", 1, 0, 0);
        compared("7", "7", 0, 1, 0);
        compared("8", "7", 0, 0, 1);
        compared("-1", "0", 1, 0, 0);
        compared("0", "-1", 0, 0, 1);
        compared("-7", "-7", 0, 1, 0);
        // No difference is taken that could wrap.
        compared(LEAST_TEXT, GREATEST_TEXT, 1, 0, 0);
        compared(GREATEST_TEXT, LEAST_TEXT, 0, 0, 1);
        compared(LEAST_TEXT, LEAST_TEXT, 0, 1, 0);
        compared(GREATEST_TEXT, "-1", 0, 0, 1);
    }

    // "< = > and or not give 1 or 0 (what is not 0 is true)".
    private static void whatIsNot0IsTrue() {
        String[] trueOnes = {"1", "2", "-1", "99999", LEAST_TEXT};
        value("not 0", 1);
        value("0 or 0", 0);
        value("0 and 0", 0);
        for (String one : trueOnes) {
            value("not " + one, 0);
            value("not not " + one, 1);
            value(one + " or 0", 1);
            value("0 or " + one, 1);
            value(one + " and 0", 0);
            value("0 and " + one, 0);
            value(one + " and " + one, 1);
            value(one + " or " + one, 1);
        }
        // A bit that the two sides do not share, and one that sums away.
        value("1 and 2", 1);
        value("1 or -1", 1);
        value(LEAST_TEXT + " or " + LEAST_TEXT, 1);
    }

    private static void signsBindAsTheyAreWritten() {
        value("2+3*4", 14);
        value("2*3+4", 10);
        value("(2+3)*4", 20);
        value("9-3-2", 4);
        value("9-(3-2)", 8);
        value("9-3+2", 8);
        value("-2+3", 1);
        value("-(2+3)", -5);
        value("--2", 2);
        value("2--3", 5);
        value("1+1<3", 1);
        value("1+(1<3)", 2);
        value("not 1<1", 1);
        value("(not 1)<1", 1);
        value("not 2=2", 0);
        value("(not 2)=2", 0);
        value("not 0 and 0", 0);
        value("not(0 and 0)", 1);
        value("1 or 1 and 0", 1);
        value("(1 or 1)and 0", 0);
        value("0 and 1 or 1", 1);
        value("0 and(1 or 1)", 0);
        value("not 1 or 1", 1);
        value("not(1 or 1)", 0);
    }

    /**
     * Day 10. Galley 1 came to port 1 on day 7 with a weight of 40 aboard, and is there still; galley 2 came on
     * day 8; galley 0 is on its way to port 1, galley 3 is HOME. Bale 1 was made on day 4. All votes are told on
     * day 0, so that they are known in port 1.
     */
    private static GalleyConvoy atPort1(String stay, String lade, String wait) {
        GalleyConvoy x = Due.line(2, 9);
        Due.vote(x, 0, stay);
        Due.vote(x, 1, lade);
        Due.vote(x, 2, wait);
        x.galley(99, 999, 1, 1);
        x.galley(99, 999, 5, 1);
        x.galley(99, 999, 5, 1);
        x.galley(99, 999, 1, 1);
        Due.bale(x, 6, 0, 2, 40);
        x.day(2);
        x.start(1);
        x.day(1);
        x.start(2);
        x.day(1);
        x.bale(7, 102, Due.size(2, 12, 345), Due.price(678, 90));
        x.start(0);
        x.day(6);
        return x;
    }

    /** What a NAME is for galley 1; a STAY of 1000 more keeps the galleys in port 1. */
    private static int name(int kind, int which, String name) {
        String stay = kind == 0 ? "port*(1000+" + name + ")" : "port*30";
        String lade = kind == 1 ? "(port=0 and ship=1)+port*" + name : "ship=1";
        String wait = kind == 2 ? name : "0";
        GalleyConvoy x = atPort1(stay, lade, wait);
        Due.due("all are as told", x.ship(0, 0) * 1000 + x.ship(1, 0) * 100 + x.ship(2, 0) * 10 + x.ship(3, 0), 2110);
        return x.says(kind, 1, which) - (kind == 0 ? 1000 : 0);
    }

    private static void names(int kind, int which, int[] wanted) {
        for (int i = 0; i < NAMES.length; i++) {
            Due.due(NAMES[i] + " of kind " + kind, name(kind, which, NAMES[i]), wanted[i]);
        }
    }

    private static void namesOfStay() {
        names(0, 0, new int[] {1, 10, 1, 2, 0, 3, 40, 0, 0, 0, 0, 0, 0});
    }

    private static void namesOfLade() {
        names(1, 1, new int[] {1, 10, 1, 2, 0, 3, 40, 2, 12, 345, 678, 90, 6});
    }

    private static void namesOfWait() {
        names(2, 0, new int[] {1, 10, 0, 2, 3, 3, 40, 0, 0, 0, 0, 0, 0});
        names(2, 2, new int[] {1, 10, 2, 2, 3, 3, 40, 0, 0, 0, 0, 0, 0});
        names(2, 3, new int[] {1, 10, 3, 2, 3, 3, 40, 0, 0, 0, 0, 0, 0});
    }

    // "without any STAY is 1, LADE is 1, WAIT is 0."
    private static void withoutAnyVote() {
        GalleyConvoy x = Due.line(9);
        x.galley(9, 99, 1, 1);
        x.galley(9, 99, 1, 1);
        Due.bale(x, 0, 0, 1, 5);
        x.start(0);
        Due.due("STAY", x.says(0, 0, 0), 1);
        Due.due("LADE", x.says(1, 0, 0), 1);
        Due.due("WAIT", x.says(2, 0, 1), 0);
        x.day(1);
        Due.due("it left after one day", x.ship(0, 0), 2);
        Due.due("with the bale", x.ship(0, 4), 1);
    }
}
