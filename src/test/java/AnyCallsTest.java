import java.util.Random;

/**
 * Runs of 512 calls with ordinary, edge and wildly wrong numbers: every answer is held against
 * PlainOffice's, nothing may throw, and no coin may come or go but from outside. What is asked of all at
 * last goes beyond the document's 512 calls: the class itself sets no such limit.
 */
public final class AnyCallsTest {
    private static final int RUNS = 700;
    private static final int CALLS = 512;
    private static final int[] WILD = {
        Integer.MIN_VALUE, Integer.MIN_VALUE + 1, -2000000000, -101, -100, -2, -1, 0, 1, 2, 9, 10, 11, 12, 13, 24,
        25, 29, 30, 99, 100, 101, 200, 300, 999, 1000, 9999, 10000, 100000, 100001, 1000000, 1000001, 9999999,
        10000000, 1 << 30, Integer.MAX_VALUE - 1, Integer.MAX_VALUE,
    };
    private static final String[] TEXTS = {
        "0", "1", "2", "30", "port", "port+1", "3-port", "ship", "here<2", "(here=1)*3", "late<5", "late<9 and ship>0",
        "ship>1 and late<20", "full<50", "weight", "freight-weight*kind", "worth-full", "waits*2-weight",
        "100-weight+waits", "kind=1 or freight>500", "not kind", "kind", "worth", "freight", "0-1", "99999*99999",
        "day-stayed", "(day<50)*30", "room*weight-worth*freight", "weight>100", "not (stayed>2)", "1-",
        "stayed stayed", "full*full*full*full", "ship=3", "1+day*0", "-weight+500", "not late>7",
    };

    private final Random random;
    private final GalleyConvoy x = new GalleyConvoy();
    private final PlainOffice p = new PlainOffice();
    private final StringBuilder told = new StringBuilder();

    private AnyCallsTest(long seed) {
        random = new Random(seed);
    }

    public static void main(String[] args) {
        for (int run = 0; run < RUNS && Due.wrongSoFar() == 0; run++) {
            AnyCallsTest test = new AnyCallsTest(run);
            if (run % 10 != 0) {
                test.setUp();
            }
            for (int i = 0; i < CALLS && Due.wrongSoFar() == 0; i++) {
                test.oneCall();
            }
            test.askAll(run);
        }
        Due.end();
    }

    private void due(String call, int got, int want) {
        told.append(call).append(" = ").append(want).append('\n');
        Due.due(call, got, want);
        if (Due.wrongSoFar() != 0) {
            System.out.println(told);
        }
    }

    private void setUp() {
        int ports = 2 + random.nextInt(6);
        for (int i = 0; i < ports; i++) {
            int leg = i == 0 ? 0 : 1 + random.nextInt(4);
            due("port(" + leg + ")", x.port(leg), p.port(leg));
        }
        for (int i = 0; i < 4; i++) {
            galley();
        }
    }

    /** Mostly a number within bounds or next to them, seldom a wild one. */
    private int number(int from, int to) {
        if (random.nextInt(60) == 0) {
            return WILD[random.nextInt(WILD.length)];
        }
        if (random.nextInt(40) == 0) {
            return random.nextBoolean() ? from - 1 : to + 1;
        }
        return from + random.nextInt(Math.max(1, to - from + 1));
    }

    private int galleyNumber() {
        return number(0, Math.max(0, p.ships.size() - 1));
    }

    private void oneCall() {
        int pick = random.nextInt(100);
        if (pick < 3) {
            int leg = number(p.legs.isEmpty() ? 0 : 1, p.legs.isEmpty() ? 0 : 9);
            due("port(" + leg + ")", x.port(leg), p.port(leg));
        } else if (pick < 8) {
            int d = number(0, 29);
            int w = number(-9, 9);
            due("wind(" + d + ", " + w + ")", x.wind(d, w), p.wind(d, w));
        } else if (pick < 10) {
            galley();
        } else if (pick < 13) {
            int who = number(0, 9);
            int v = number(1, 3000);
            due("purse(" + who + ", " + v + ")", x.purse(who, v), p.purse(who, v));
        } else if (pick < 22) {
            letting();
        } else if (pick < 50) {
            bale();
        } else if (pick < 62) {
            vote();
        } else if (pick < 66) {
            int g = galleyNumber();
            due("start(" + g + ")", x.start(g), p.start(g));
        } else if (pick < 74) {
            int n = random.nextInt(5) == 0 ? number(1, 30) : number(1, 3);
            due("day(" + n + ")", x.day(n), p.day(n));
        } else if (pick < 77) {
            int g = galleyNumber();
            int w = number(1, 300);
            due("toss(" + g + ", " + w + ")", x.toss(g, w), p.toss(g, w));
        } else {
            question();
        }
    }

    private void galley() {
        int room = number(1, 60);
        int bears = number(1, 2500);
        int speed = number(1, 9);
        int hull = number(1, 9999);
        due("galley(" + room + ", " + bears + ", " + speed + ", " + hull + ")", x.galley(room, bears, speed, hull),
                p.galley(room, bears, speed, hull));
    }

    private void letting() {
        int g = galleyNumber();
        int a = number(0, 3);
        int b = number(0, 9);
        int n = number(1, 24);
        switch (random.nextInt(3)) {
            case 0 -> {
                int coins = number(1, 1500);
                due("bid(" + g + ", " + a + ", " + coins + ")", x.bid(g, a, coins), p.bid(g, a, coins));
            }
            case 1 -> due("let(" + g + ")", x.let(g), p.let(g));
            default -> due("part(" + g + ", " + a + ", " + b + ", " + n + ")", x.part(g, a, b, n), p.part(g, a, b, n));
        }
    }

    private void bale() {
        int owner = number(0, 9);
        int last = Math.max(1, p.legs.size() - 1);
        int from = random.nextInt(last);
        int ports = random.nextInt(30) == 0 ? number(0, 1200) : 100 * from + from + 1 + random.nextInt(last - from);
        int size = random.nextInt(30) == 0 ? number(0, 3000000)
                : Due.size(number(0, 2), number(1, 20), random.nextInt(3) == 0 ? 100 : number(1, 400));
        int price = random.nextInt(30) == 0 ? number(0, 9999999) : Due.price(number(1, 9999), number(0, 999));
        due("bale(" + owner + ", " + ports + ", " + size + ", " + price + ")", x.bale(owner, ports, size, price),
                p.bale(owner, ports, size, price));
    }

    private void vote() {
        if (random.nextInt(3) > 0) {
            int n = number(1, 4);
            int v = random.nextInt(20) == 0 ? random.nextInt() : "1+( -day".charAt(random.nextInt(8)) * 0x01000001;
            due("feed(" + n + ", " + v + ")", x.feed(n, v), p.feed(n, v));
            return;
        }
        // What lies on the tape is voted away first, so that the text stands alone.
        if (p.tape.length() > 0) {
            due("vote(0)", x.vote(0), p.vote(0));
        }
        String text = TEXTS[random.nextInt(TEXTS.length)];
        for (int i = 0; i < text.length(); i++) {
            int v = text.charAt(i);
            due("feed(1, " + v + ")", x.feed(1, v), p.feed(1, v));
        }
        int kind = number(0, 2);
        due("vote(" + kind + ") of " + text, x.vote(kind), p.vote(kind));
    }

    private void question() {
        int g = galleyNumber();
        int kind = number(0, 2);
        switch (random.nextInt(7)) {
            case 0 -> {
                int what = number(0, 9);
                due("ship(" + g + ", " + what + ")", x.ship(g, what), p.ship(g, what));
            }
            case 1 -> {
                int b = number(0, Math.max(0, p.packs.size() - 1));
                int what = number(0, 11);
                due("about(" + b + ", " + what + ")", x.about(b, what), p.about(b, what));
            }
            case 2 -> {
                int who = number(-1, 9);
                due("parts(" + g + ", " + who + ")", x.parts(g, who), p.parts(g, who));
            }
            case 3 -> {
                int port = number(0, Math.max(0, p.legs.size() - 1));
                due("known(" + kind + ", " + port + ")", x.known(kind, port), p.known(kind, port));
            }
            case 4 -> {
                int which = number(0, kind == 2 ? 7 : Math.max(0, p.packs.size() - 1));
                due("says(" + kind + ", " + g + ", " + which + ")", x.says(kind, g, which), p.says(kind, g, which));
            }
            case 5 -> {
                int what = number(0, 9);
                due("count(" + what + ")", x.count(what), p.count(what));
            }
            default -> {
                int who = number(0, 11);
                due("coins(" + who + ")", x.coins(who), p.coins(who));
            }
        }
    }

    private void askAll(int run) {
        String at = "run " + run + " at last: ";
        for (int g = 0; g < p.ships.size(); g++) {
            for (int what = 0; what < 10; what++) {
                due(at + "ship(" + g + ", " + what + ")", x.ship(g, what), p.ship(g, what));
            }
            int all = 0;
            for (int who = -1; who < 10; who++) {
                due(at + "parts(" + g + ", " + who + ")", x.parts(g, who), p.parts(g, who));
                all += x.parts(g, who);
            }
            due(at + "all parts", all, 24);
        }
        for (int b = 0; b < p.packs.size(); b++) {
            for (int what = 0; what < 12; what++) {
                due(at + "about(" + b + ", " + what + ")", x.about(b, what), p.about(b, what));
            }
        }
        for (int what = 0; what < 10; what++) {
            due(at + "count(" + what + ")", x.count(what), p.count(what));
        }
        int coins = 0;
        for (int who = 0; who < 12; who++) {
            due(at + "coins(" + who + ")", x.coins(who), p.coins(who));
            coins += who < 11 ? x.coins(who) : 0;
        }
        due(at + "all coins together", coins, x.coins(11));
    }
}
