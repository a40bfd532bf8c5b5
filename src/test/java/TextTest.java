import java.util.Map;
import java.util.Random;

/** Promises 12 and 13: the tape, texts, faults, votes. */
public final class TextTest {
    private static final String[] PIECES = {
        "port", "day", "ship", "here", "late", "stayed", "full", "kind", "room", "weight", "worth", "freight",
        "waits", "and", "or", "not", "and", "or", "not", "(", ")", "(", ")", "-", "-", "+", "*", "<", "=", ">",
        "0", "1", "7", "10", "99999", "123456", " ", " ", "  ", "x", "A", "/", "\0", "\u00ff", "days", "nota",
    };

    public static void main(String[] args) {
        feeding();
        goodTexts();
        faults();
        openOnes();
        values();
        votesAndTheTape();
        thirtyVotes();
        againstAnotherReader();
        Due.end();
    }

    private static void feeding() {
        GalleyConvoy x = new GalleyConvoy();
        Due.due("feed(0, 1)", x.feed(0, 1), Due.BAD);
        Due.due("feed(5, 1)", x.feed(5, 1), Due.BAD);
        Due.due("feed(-1, 1)", x.feed(-1, 1), Due.BAD);
        for (int i = 1; i <= 49; i++) {
            Due.due("feed(4, ..)", x.feed(4, 0x2b312b31), 4 * i);
        }
        Due.due("feed(2, ..)", x.feed(2, 0x2b31), 198);
        Due.due("feed(3, ..) beyond 200", x.feed(3, 0), Due.FULL);
        Due.due("feed(5, ..) beyond 200", x.feed(5, 0), Due.BAD);
        Due.due("count(9)", x.count(9), 198);
        Due.due("feed(1, ..)", x.feed(1, 0xffffff31), 199);
        Due.due("feed(2, ..) beyond 200", x.feed(2, 0), Due.FULL);
        Due.due("feed(1, ..)", x.feed(1, ' '), 200);
        Due.due("feed(1, ..) beyond 200", x.feed(1, 0), Due.FULL);
        Due.due("a text of 200 bytes", x.vote(0), 1);
        Due.due("count(9)", x.count(9), 0);
        Due.due("the lowest byte first", x.feed(3, 0x00332d31), 3);
        Due.due("1-3", x.vote(0), 2);
        Due.due("a byte above 127", x.feed(2, 0x8031), 2);
        Due.due("its fault", x.vote(0), -101);
    }

    private static int faultOf(String text) {
        int answer = Due.vote(new GalleyConvoy(), 0, text);
        return answer == 1 ? -1 : -100 - answer;
    }

    private static void goodTexts() {
        String[] good = {
            "1", "00000", "99999", "port", "day", "ship", "here", "late", "stayed", "full", "kind", "room",
            "weight", "worth", "freight", "waits", "1or 2", "1or2", "1and2", "not1", "not(1)", "not not 1",
            "1<2", "1 = 2", "1>2", "(1<2)<3", "1<2 and 2<3", "1-2-3", "1--1", "1- -1", "1*-1", "-port", "-(-1)",
            "((1))", "1 or 2 and not 3 = 4 + 5 * 6", "(not 1)+1", "not 1<2", "1<-2", "port or day", "5 or day",
            "  1  ", " ( 1 ) ",
        };
        for (String text : good) {
            Due.due("fault of '" + text + "'", faultOf(text), -1);
        }
    }

    private static void fault(String text, int place) {
        Due.due("fault of '" + text + "'", faultOf(text), place);
    }

    private static void faults() {
        fault("", 0);
        fault("   ", 3);
        fault("1+", 2);
        fault("1+ ", 3);
        fault("(1", 2);
        fault("not", 3);
        fault("not ", 4);
        fault("1)", 1);
        fault("()", 1);
        fault("1 1", 2);
        fault("1 day", 2);
        fault("1day", 1);
        fault("day1", 3);
        fault("day day", 4);
        fault("dayday", 0);
        fault("da", 0);
        fault("days", 0);
        fault("freights", 0);
        fault("Day", 0);
        fault("daY", 0);
        fault("1 + days*2", 4);
        fault("123456", 0);
        fault("000001", 0);
        fault("1+ 123456", 3);
        fault("12345 6", 6);
        fault("1 123456", 2);
        fault("1<2<3", 3);
        fault("1<2=3", 3);
        fault("1=2 > 3", 4);
        fault("(1<2<3)", 4);
        fault("1<>2", 2);
        fault("1<=2", 2);
        fault("1+not 2", 2);
        fault("1<not 2", 2);
        fault("-not 2", 1);
        fault("1*not 2", 2);
        fault("1 not 2", 2);
        fault("+1", 0);
        fault("1++1", 2);
        fault("1**2", 2);
        fault("*1", 0);
        fault("and 1", 0);
        fault("1 and", 5);
        fault("1 and or 2", 6);
        fault("1 or and 2", 5);
        fault("1 or or 2", 5);
        fault("1/2", 1);
        fault("1 $", 2);
        fault("$", 0);
        fault("1\t+1", 1);
        fault("1\0", 1);
        fault("1+(2+3", 6);
        fault("(1+2))", 5);
        fault("(1 2)", 3);
        fault("1(2)", 1);
        fault("(1)(2)", 3);
        fault("(1)2", 3);
        fault("port(1)", 4);
    }

    private static void openOnes() {
        fault("(".repeat(12) + "1" + ")".repeat(12), -1);
        fault("(".repeat(13) + "1" + ")".repeat(13), 12);
        fault("-".repeat(12) + "1", -1);
        fault("-".repeat(13) + "1", 12);
        fault("not ".repeat(12) + "1", -1);
        fault("not ".repeat(13) + "1", 48);
        fault("not(-(".repeat(3) + "1" + "))".repeat(3), -1);
        fault("not(-(".repeat(4) + "1", 18);
        fault("(".repeat(12) + "-1", 12);
        fault("(".repeat(12) + "not 1", 12);
        fault("(".repeat(12) + "1-1" + ")".repeat(12), -1);
        fault("-".repeat(12) + "1+" + "-".repeat(12) + "1", -1);
        fault("-".repeat(12) + "1*" + "-".repeat(13) + "1", 26);
        fault("not ".repeat(12) + "1 and " + "not ".repeat(12) + "1", -1);
        fault("not ".repeat(12) + "1<-1", 50);
        fault("not ".repeat(11) + "1<-1", -1);
        fault("not ".repeat(11) + "(1)<-1+(2)", -1);
        fault("(".repeat(12) + "1" + ")".repeat(12) + "+(1)", -1);
    }

    private static void values() {
        value("1+2*3", 7);
        value("(1+2)*3", 9);
        value("10-3-2", 5);
        value("2*3*4", 24);
        value("-2*3", -6);
        value("2*-3", -6);
        value("--3", 3);
        value("-(2+1)", -3);
        value("-2-3", -5);
        value("1<2", 1);
        value("2<1", 0);
        value("2=2", 1);
        value("2=3", 0);
        value("3>2", 1);
        value("2>2", 0);
        value("2<2", 0);
        value("1+1=2", 1);
        value("5 and 3", 1);
        value("5 and 0", 0);
        value("0 or 7", 1);
        value("0 or 0", 0);
        value("not 5", 0);
        value("not 0", 1);
        value("not not 5", 1);
        value("not 1=2", 1);
        value("not 0 and 0", 0);
        value("not (0 and 0)", 1);
        value("1 or 0 and 0", 1);
        value("(1 or 0) and 0", 0);
        value("0 and 0 or 1", 1);
        value("-5 and 1", 1);
        value("00012", 12);
        value("99999*99999", 99999 * 99999);
        value("99999*99999*99999", 99999 * 99999 * 99999);
        value("7", 7);
    }

    private static void value(String text, int want) {
        GalleyConvoy x = Due.line(1);
        x.galley(1, 1, 1, 1);
        x.start(0);
        Due.vote(x, 0, text);
        Due.due("value of '" + text + "'", x.says(0, 0, 0), want);
    }

    private static void votesAndTheTape() {
        GalleyConvoy x = new GalleyConvoy();
        x.feed(1, '1');
        Due.due("vote(3)", x.vote(3), Due.BAD);
        Due.due("vote(-1)", x.vote(-1), Due.BAD);
        Due.due("BAD leaves the tape", x.count(9), 1);
        Due.due("vote(2)", x.vote(2), 1);
        Due.due("the tape is empty", x.count(9), 0);
        Due.due("an empty tape", x.vote(1), -100);
        x.feed(2, '1' | '+' << 8);
        Due.due("a fault", x.vote(1), -102);
        Due.due("a fault empties the tape, too", x.count(9), 0);
        Due.due("a fault is no vote", x.count(3), 1);
        x.feed(1, '$');
        Due.due("BAD is named first", x.vote(9), Due.BAD);
        Due.due("and leaves the tape", x.count(9), 1);
    }

    private static void thirtyVotes() {
        GalleyConvoy x = new GalleyConvoy();
        for (int i = 1; i <= 30; i++) {
            x.feed(1, '1');
            Due.due("vote " + i, x.vote(i % 3), i);
        }
        x.feed(1, '1');
        Due.due("vote 31", x.vote(0), Due.FULL);
        Due.due("vote 31, bad", x.vote(3), Due.BAD);
        Due.due("FULL leaves the tape", x.count(9), 1);
        x.feed(1, '(');
        Due.due("vote 31, with a fault", x.vote(0), Due.FULL);
        Due.due("FULL leaves the tape", x.count(9), 2);
        Due.due("count(3)", x.count(3), 30);
    }

    private static void againstAnotherReader() {
        Random random = new Random(24);
        Map<String, Integer> names = Map.of("day", 5, "stayed", 5, "here", 1);
        for (int i = 0; i < 60000; i++) {
            String text = i % 2 == 0 ? randomPieces(random) : brokenText(random);
            GalleyConvoy x = Due.line(1);
            x.galley(1, 1, 1, 1);
            x.start(0);
            // No wind and no other galley: it stays in port 0 as long as the vote of its first day says.
            Due.vote(x, 0, "30");
            x.day(5);
            PlainText plain = new PlainText(text);
            int answer = Due.vote(x, 0, text);
            Due.due("vote of '" + text + "'", answer, plain.fault < 0 ? 2 : -100 - plain.fault);
            if (plain.fault < 0 && answer == 2) {
                Due.due("value of '" + text + "'", x.says(0, 0, 0), plain.value(names));
            }
        }
    }

    private static String randomPieces(Random random) {
        StringBuilder text = new StringBuilder();
        int n = random.nextInt(12);
        for (int i = 0; i < n; i++) {
            text.append(PIECES[random.nextInt(PIECES.length)]);
            if (random.nextBoolean()) {
                text.append(' ');
            }
        }
        return text.toString();
    }

    /** A good text, of which a sign may have been put, taken or doubled somewhere. */
    private static String brokenText(Random random) {
        StringBuilder text = new StringBuilder();
        grow(random, text, 0, 0);
        if (text.length() > 200) {
            text.setLength(200);
        }
        int at = random.nextInt(text.length());
        switch (random.nextInt(4)) {
            case 0 -> text.deleteCharAt(at);
            case 1 -> text.insert(at, text.length() < 190 ? PIECES[random.nextInt(PIECES.length)] : "");
            case 2 -> text.setCharAt(at, " ()-+<=1a".charAt(random.nextInt(9)));
            default -> { }
        }
        return text.toString();
    }

    /** Levels: 0 or, 1 and, 2 not, 3 compared, 4 sum, 5 product, 6 operand. */
    private static void grow(Random random, StringBuilder text, int level, int depth) {
        String[][] joins = {{" or "}, {" and "}, {}, {"<", "=", " > "}, {"+", " - "}, {"*"}};
        if (level == 6) {
            int pick = text.length() > 120 ? 0 : random.nextInt(6);
            if (pick == 5) {
                text.append('(');
                grow(random, text, 0, depth + 1);
                text.append(')');
            } else if (pick == 4) {
                text.append('-');
                grow(random, text, 6, depth + 1);
            } else {
                text.append(random.nextBoolean() ? PIECES[random.nextInt(13)] : "" + random.nextInt(100));
            }
        } else if (level == 2 && random.nextInt(4) == 0) {
            text.append("not ");
            grow(random, text, 2, depth + 1);
        } else {
            grow(random, text, level + 1, depth);
            int more = level == 2 || text.length() > 120 ? 0 : Math.max(0, random.nextInt(5) - 3);
            for (int i = 0; i < more; i++) {
                text.append(joins[level][random.nextInt(joins[level].length)]);
                grow(random, text, level + 1, depth);
            }
        }
    }
}
