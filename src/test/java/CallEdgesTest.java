/** Promises 10 to 21: every edge that the document names for bales, the tape, votes and the calls of sailing. */
public final class CallEdgesTest {
    private static final int SIZE = Due.size(0, 1, 1);
    private static final int PRICE = Due.price(1, 0);

    public static void main(String[] args) {
        baleOfPersons0To9();
        balePortsAreOnTheLine();
        baleGoesToAPortBehind();
        baleKindRoomAndWeight();
        baleWorthAndFreight();
        bales0To299();
        aboutABaleAndWhat();
        aboutABaleThatWasNeverAboard();
        feedOf1To4Bytes();
        tapeOf200Bytes();
        voteOfKinds0To2();
        voteWithAFaultIsNone();
        thirtyVotes();
        knownOfKindsAndPorts();
        knownFarDaysLater();
        knownIsTheOneToldLast();
        saysOfKinds();
        saysOfAGalleyInPort();
        saysOfLadeForABale();
        saysOfWaitForAnotherGalley();
        saysOfStayWhicheverNumber();
        startOfAGalleyThatIsHome();
        startWithTwoPorts();
        day1To100();
        dayUpTo2000();
        tossOfWeights1To100000();
        tossAtSeaWithBales();
        shipOfGalleysAndWhat();
        shipAtHome();
        countOfWhat();
        coinsOfWhom();
        Due.end();
    }

    // Promise 10

    private static void baleOfPersons0To9() {
        Edges.within("owner", Edges::busy, (x, who) -> x.bale(who, 1, SIZE, PRICE), Edges.from(0, 9), who -> 4, Due.BAD);
    }

    private static void balePortsAreOnTheLine() {
        Edges.passes("0 to 1", Edges::busy, x -> x.bale(0, 1, SIZE, PRICE), 4);
        Edges.passes("0 to the last port", Edges::busy, x -> x.bale(0, 2, SIZE, PRICE), 4);
        Edges.passes("the last leg", Edges::busy, x -> x.bale(0, 102, SIZE, PRICE), 4);
        Edges.passes("10 to 11", Edges::twelvePorts, x -> x.bale(0, 1011, SIZE, PRICE), 0);
        Edges.passes("0 to 11", Edges::twelvePorts, x -> x.bale(0, 11, SIZE, PRICE), 0);
        int[] beyond = {3, 103, 203, 99, 199, -1, -98, -99, -100, -101, 10001, Integer.MIN_VALUE, Integer.MAX_VALUE};
        for (int ports : beyond) {
            Edges.refused("ports " + ports, Edges::busy, x -> x.bale(0, ports, SIZE, PRICE), Due.BAD);
        }
        Edges.refused("0 to 12 of 12", Edges::twelvePorts, x -> x.bale(0, 12, SIZE, PRICE), Due.BAD);
        Edges.refused("11 to 12 of 12", Edges::twelvePorts, x -> x.bale(0, 1112, SIZE, PRICE), Due.BAD);
        Edges.refused("one port alone", Due::line, x -> x.bale(0, 1, SIZE, PRICE), Due.BAD);
        Edges.refused("no port", GalleyConvoy::new, x -> x.bale(0, 1, SIZE, PRICE), Due.BAD);
    }

    private static void baleGoesToAPortBehind() {
        int[] notBehind = {0, 101, 202, 100, 200, 201};
        for (int ports : notBehind) {
            Edges.refused("ports " + ports, Edges::busy, x -> x.bale(0, ports, SIZE, PRICE), Due.BAD);
        }
        Edges.refused("11 to 11", Edges::twelvePorts, x -> x.bale(0, 1111, SIZE, PRICE), Due.BAD);
        Edges.refused("11 to 10", Edges::twelvePorts, x -> x.bale(0, 1110, SIZE, PRICE), Due.BAD);
    }

    private static void size(String what, int size, int want) {
        if (want == Due.BAD) {
            Edges.refused(what, Edges::busy, x -> x.bale(0, 1, size, PRICE), want);
        } else {
            Edges.passes(what, Edges::busy, x -> x.bale(0, 1, size, PRICE), want);
        }
    }

    private static void baleKindRoomAndWeight() {
        size("the least", Due.size(0, 1, 1), 4);
        size("the greatest", Due.size(2, 99, 999), 4);
        size("KIND 1", Due.size(1, 1, 1), 4);
        size("KIND 2", Due.size(2, 1, 1), 4);
        size("KIND 3", Due.size(3, 1, 1), Due.BAD);
        size("KIND -1", Due.size(-1, 1, 1), Due.BAD);
        size("KIND -1, ROOM 99", Due.size(-1, 99, 999), Due.BAD);
        size("ROOM 99", Due.size(0, 99, 1), 4);
        size("ROOM 100", Due.size(0, 100, 1), Due.BAD);
        size("ROOM 100 of KIND 2", Due.size(2, 100, 1), Due.BAD);
        size("ROOM 0", Due.size(0, 0, 1), Due.BAD);
        size("ROOM 0 of KIND 2", Due.size(2, 0, 999), Due.BAD);
        size("ROOM 999", Due.size(0, 999, 1), Due.BAD);
        size("WEIGHT 999", Due.size(0, 1, 999), 4);
        size("WEIGHT 0", Due.size(0, 1, 0), Due.BAD);
        size("WEIGHT 0 of ROOM 99", Due.size(1, 99, 0), Due.BAD);
        size("WEIGHT 1000 of ROOM 99 is WEIGHT 0 of ROOM 100", Due.size(0, 99, 1000), Due.BAD);
        size("nothing", 0, Due.BAD);
        size("below 0", -SIZE, Due.BAD);
        size("-1", -1, Due.BAD);
        size("the wildest", Integer.MAX_VALUE, Due.BAD);
        size("the wildest", Integer.MIN_VALUE, Due.BAD);
    }

    private static void price(String what, int price, int want) {
        if (want == Due.BAD) {
            Edges.refused(what, Edges::busy, x -> x.bale(0, 1, SIZE, price), want);
        } else {
            Edges.passes(what, Edges::busy, x -> x.bale(0, 1, SIZE, price), want);
        }
    }

    private static void baleWorthAndFreight() {
        price("WORTH 1, FREIGHT 0", Due.price(1, 0), 4);
        price("WORTH 1, FREIGHT 999", Due.price(1, 999), 4);
        price("WORTH 9999, FREIGHT 0", Due.price(9999, 0), 4);
        price("WORTH 9999, FREIGHT 999", Due.price(9999, 999), 4);
        price("WORTH 0, FREIGHT 0", Due.price(0, 0), Due.BAD);
        price("WORTH 0, FREIGHT 999", Due.price(0, 999), Due.BAD);
        price("WORTH 10000", Due.price(10000, 0), Due.BAD);
        price("WORTH 9999, FREIGHT 1000", Due.price(9999, 1000), Due.BAD);
        price("WORTH 1, FREIGHT -1", Due.price(1, -1), Due.BAD);
        price("FREIGHT -1", -1, Due.BAD);
        price("WORTH -1", Due.price(-1, 0), Due.BAD);
        price("WORTH -1, FREIGHT 5", Due.price(-1, 5), Due.BAD);
        price("the wildest", Integer.MAX_VALUE, Due.BAD);
        price("the wildest", Integer.MIN_VALUE, Due.BAD);
    }

    private static void bales0To299() {
        Edges.passes("the 300th", () -> Edges.bales(299), x -> Due.bale(x, 0, 0, 1, 1), 299);
        Edges.refused("the 301st", () -> Edges.bales(300), x -> Due.bale(x, 0, 0, 1, 1), Due.FULL);
        GalleyConvoy x = Edges.bales(300);
        Due.due("about(299, 5)", x.about(299, 5), 300);
        Due.due("about(300, 5)", x.about(300, 5), Due.BAD);
        x.start(0);
        Due.due("LADE of the last", x.says(1, 0, 299), 1);
        Due.due("LADE of one more", x.says(1, 0, 300), Due.BAD_SUM);
    }

    // Promise 11

    private static void aboutABaleAndWhat() {
        Edges.within("about of bale", Edges::busy, (x, b) -> x.about(b, 0), Edges.from(0, 3), b -> 2 + b, Due.BAD);
        Edges.within("about what", Edges::busy, (x, what) -> x.about(3, what), Edges.from(0, 11),
                what -> what == 0 ? 5 : 3, Due.BAD);
        Edges.refused("no bale", GalleyConvoy::new, x -> x.about(0, 0), Due.BAD);
        int[] greatest = {9, 10, 11, 2, 99, 999, 9999, 999, 0, 0, -1, 0};
        GalleyConvoy x = Edges.twelvePorts();
        x.bale(9, 1011, Due.size(2, 99, 999), Due.price(9999, 999));
        int[] least = {0, 0, 1, 0, 1, 1, 1, 0, 0, 0, -1, 0};
        x.bale(0, 1, SIZE, PRICE);
        for (int what = 0; what < 12; what++) {
            Due.due("the greatest: about(0, " + what + ")", x.about(0, what), greatest[what]);
            Due.due("the least: about(1, " + what + ")", x.about(1, what), least[what]);
        }
    }

    private static void aboutABaleThatWasNeverAboard() {
        GalleyConvoy x = Edges.busy();
        Due.due("never ABOARD", x.about(2, 10), -1);
        Due.due("ABOARD galley 0", x.about(0, 10), 0);
        x.toss(0, 100);
        Due.due("THROWN from galley 0", x.about(0, 10), 0);
        Due.due("the DAY of its state", x.about(0, 11), 3);
    }

    // Promise 12

    private static void feedOf1To4Bytes() {
        Edges.within("feed", Edges::busy, (x, n) -> x.feed(n, 0x20202020), Edges.from(1, 4), n -> 7 + n, Due.BAD);
        Edges.passes("any v", Edges::busy, x -> x.feed(4, Integer.MIN_VALUE), 11);
        Edges.passes("any v", Edges::busy, x -> x.feed(4, Integer.MAX_VALUE), 11);
        // The bytes of v are 1 + 1 +, the lowest first; the $ behind them shows how many came.
        for (int n = 1; n <= 4; n++) {
            GalleyConvoy x = new GalleyConvoy();
            x.feed(n, 0x2b312b31);
            x.feed(1, '$');
            Due.due("the lowest " + n + " bytes", x.vote(0), -100 - n);
        }
        GalleyConvoy y = new GalleyConvoy();
        y.feed(2, 0x2b31);
        Due.due("1 ahead of +", y.vote(0), -102);
        y.feed(2, 0x312b);
        Due.due("+ ahead of 1", y.vote(0), -100);
    }

    private static void tapeOf200Bytes() {
        for (int n = 1; n <= 4; n++) {
            int bytes = n;
            Edges.passes("up to 200 by " + n, () -> Edges.bytes(200 - bytes), x -> x.feed(bytes, 0x20202020), 200);
            Edges.refused("beyond 200 by " + n, () -> Edges.bytes(201 - bytes), x -> x.feed(bytes, 0x37373737), Due.FULL);
            Edges.refused("200 and " + n, () -> Edges.bytes(200), x -> x.feed(bytes, 0x37373737), Due.FULL);
        }
        GalleyConvoy x = Edges.bytes(200);
        Due.due("a text of 200 bytes", x.vote(0), 1);
        Due.due("says", x.says(0, 0, 0), 7);
        Due.due("the tape has room again", x.feed(4, 0), 4);
    }

    // Promise 13

    private static void voteOfKinds0To2() {
        Edges.within("vote of kind", Edges::busy, GalleyConvoy::vote, Edges.from(0, 2), kind -> 4, Due.BAD);
        GalleyConvoy x = Edges.busy();
        x.vote(2);
        Due.due("the tape is empty", x.count(9), 0);
        Due.due("VOTES", x.count(3), 4);
    }

    private static void voteWithAFaultIsNone() {
        GalleyConvoy x = Edges.busy();
        Due.put(x, "$");
        Due.due("the FAULT", x.vote(0), -107);
        GalleyConvoy without = Edges.busy();
        without.vote(0);
        Due.due("the tape is empty", x.count(9), without.count(9));
        Due.due("no VOTE more", x.count(3), 3);
        Due.due("the one before is in force", x.known(0, 0), 0);
        Due.due("an empty tape ends at 0", x.vote(0), -100);
        GalleyConvoy longest = new GalleyConvoy();
        Due.due("FAULT at 199", Due.vote(longest, 0, " ".repeat(199) + "$"), -299);
        Due.due("FAULT at 200, the length", Due.vote(longest, 0, "1+".repeat(100)), -300);
        Due.due("no VOTE at all", longest.count(3), 0);
    }

    private static void thirtyVotes() {
        GalleyConvoy x = Edges.votes(29);
        Due.due("the 30th", Due.vote(x, 0, "17"), 30);
        Due.due("is in force", x.known(0, 0), 29);
        Due.due("and says", x.says(0, 0, 0), 17);
        Edges.refused("the 31st", () -> {
            GalleyConvoy y = Edges.votes(30);
            Due.put(y, "17");
            return y;
        }, y -> y.vote(0), Due.FULL);
        GalleyConvoy z = Edges.votes(29);
        Due.due("a FAULT ahead of the 30th", Due.vote(z, 0, "17+"), -103);
        Due.due("takes no place", Due.vote(z, 2, "17"), 30);
    }

    // Promise 14

    private static void knownOfKindsAndPorts() {
        Edges.within("known of kind", Edges::busy, (x, kind) -> x.known(kind, 0), Edges.from(0, 2), kind -> kind, Due.BAD);
        Edges.within("known at port", Edges::busy, (x, port) -> x.known(1, port), Edges.from(0, 2),
                port -> port == 0 ? 1 : Due.NOT, Due.BAD);
        Edges.refused("none is known", () -> Due.line(1), x -> x.known(0, 0), Due.NOT);
        Edges.refused("no port", GalleyConvoy::new, x -> x.known(0, 0), Due.BAD);
    }

    // "At PORT p a captain KNOWS those that were told FAR of p days ago, or more."
    private static void knownFarDaysLater() {
        GalleyConvoy x = Edges.twelvePorts();
        x.day(1);
        Due.vote(x, 1, "1");
        Due.due("at port 0 on the same day", x.known(1, 0), 0);
        Due.due("at port 1 not yet", x.known(1, 1), Due.NOT);
        for (int port = 1; port < 12; port++) {
            x.day(8);
            Due.due("at port " + port + " a day too early", x.known(1, port), Due.NOT);
            x.day(1);
            Due.due("at port " + port, x.known(1, port), 0);
        }
        Due.due("FAR of port 11 is 99", x.count(4), 100);
    }

    private static void knownIsTheOneToldLast() {
        GalleyConvoy x = Due.line(1);
        Due.vote(x, 0, "1");
        Due.vote(x, 0, "2");
        Due.vote(x, 2, "3");
        Due.due("of one day the last", x.known(0, 0), 1);
        x.day(1);
        Due.vote(x, 0, "4");
        Due.due("the new one at port 0", x.known(0, 0), 3);
        Due.due("the old one at port 1", x.known(0, 1), 1);
        Due.due("of another kind", x.known(2, 1), 2);
        Due.due("of a third kind none", x.known(1, 1), Due.NOT);
        x.day(1);
        Due.due("the new one at port 1", x.known(0, 1), 3);
    }

    // Promise 15

    private static void saysOfKinds() {
        Edges.within("says of kind", Edges::busy, (x, kind) -> x.says(kind, 1, 2), Edges.from(0, 2),
                kind -> kind == 0 ? 2 : 1, Due.BAD_SUM);
        Edges.passes("says of LADE", Edges::busy, x -> x.says(1, 1, 2), 31);
    }

    private static void saysOfAGalleyInPort() {
        Edges.passes("IN PORT", Edges::busy, x -> x.says(0, 1, 0), 2);
        Edges.refused("AT SEA", Edges::busy, x -> x.says(0, 0, 0), Due.BAD_SUM);
        Edges.refused("HOME", Edges::busy, x -> x.says(0, 2, 0), Due.BAD_SUM);
        Edges.refused("DONE", Edges::ended, x -> x.says(0, 0, 0), Due.BAD_SUM);
        Edges.beyond("says of galley", Edges::busy, (x, g) -> x.says(0, g, 0), 0, 2, Due.BAD_SUM);
        Edges.refused("LADE, AT SEA", Edges::busy, x -> x.says(1, 0, 0), Due.BAD_SUM);
        Edges.refused("WAIT, AT SEA", Edges::busy, x -> x.says(2, 0, 1), Due.BAD_SUM);
    }

    private static void saysOfLadeForABale() {
        Edges.within("says of bale", Edges::busy, (x, b) -> x.says(1, 1, b), Edges.from(0, 3), b -> b == 0 ? 101 : 6,
                Due.BAD_SUM);
    }

    private static void saysOfWaitForAnotherGalley() {
        Edges.within("says of another galley", Edges::busy, (x, g) -> x.says(2, 1, g), Edges.from(0, 2), g -> 1,
                Due.BAD_SUM);
        Edges.refused("the same galley", Edges::busy, x -> x.says(2, 1, 1), Due.BAD_SUM);
    }

    private static void saysOfStayWhicheverNumber() {
        for (int which : new int[] {Integer.MIN_VALUE, -1, 0, 1, 4, Integer.MAX_VALUE}) {
            Edges.passes("STAY, " + which, Edges::busy, x -> x.says(0, 1, which), 2);
        }
    }

    // Promise 16

    private static void startOfAGalleyThatIsHome() {
        Edges.within("start of galley", Edges::eightGalleys, GalleyConvoy::start, Edges.from(0, 7), g -> 1, Due.BAD);
        Edges.refused("AT SEA", Edges::busy, x -> x.start(0), Due.NOT);
        Edges.refused("IN PORT", Edges::busy, x -> x.start(1), Due.NOT);
        Edges.passes("HOME", Edges::busy, x -> x.start(2), 1);
        Edges.refused("DONE", Edges::ended, x -> x.start(0), Due.NOT);
    }

    private static GalleyConvoy galleyAndPorts(int ports) {
        GalleyConvoy x = new GalleyConvoy();
        x.galley(9, 99, 9, 9);
        for (int i = 0; i < ports; i++) {
            x.port(Math.min(1, i));
        }
        return x;
    }

    private static void startWithTwoPorts() {
        Edges.refused("no port", () -> galleyAndPorts(0), x -> x.start(0), Due.NOT);
        Edges.refused("one port", () -> galleyAndPorts(1), x -> x.start(0), Due.NOT);
        Edges.passes("two ports", () -> galleyAndPorts(2), x -> x.start(0), 1);
    }

    // Promise 17

    private static void day1To100() {
        Edges.within("day", Edges::busy, GalleyConvoy::day, Edges.from(1, 100), n -> 3 + n, Due.BAD);
    }

    private static GalleyConvoy late(int day) {
        GalleyConvoy x = Due.line(1);
        x.galley(9, 99, 9, 9);
        for (int i = 0; i < day / 100; i++) {
            x.day(100);
        }
        if (day % 100 > 0) {
            x.day(day % 100);
        }
        x.start(0);
        return x;
    }

    private static void dayUpTo2000() {
        Edges.passes("1900 and 100", () -> late(1900), x -> x.day(100), 2000);
        Edges.refused("1901 and 100", () -> late(1901), x -> x.day(100), Due.BAD);
        Edges.passes("1901 and 99", () -> late(1901), x -> x.day(99), 2000);
        Edges.passes("1999 and 1", () -> late(1999), x -> x.day(1), 2000);
        Edges.refused("1999 and 2", () -> late(1999), x -> x.day(2), Due.BAD);
        Edges.refused("2000 and 1", () -> late(2000), x -> x.day(1), Due.BAD);
        Edges.refused("2000 and 100", () -> late(2000), x -> x.day(100), Due.BAD);
        Due.due("DAY", late(2000).count(4), 2000);
    }

    // Promise 18

    private static void tossOfWeights1To100000() {
        Edges.within("toss", Edges::busy, (x, w) -> x.toss(0, w), Edges.from(1, 100000), w -> w == 1 ? 50 : 70, Due.BAD);
        Edges.beyond("toss of galley", Edges::busy, (x, g) -> x.toss(g, 1), 0, 2, Due.BAD);
    }

    private static void tossAtSeaWithBales() {
        Edges.refused("IN PORT", Edges::busy, x -> x.toss(1, 1), Due.NOT);
        Edges.refused("HOME", Edges::busy, x -> x.toss(2, 1), Due.NOT);
        Edges.refused("DONE", Edges::ended, x -> x.toss(0, 1), Due.NOT);
        Edges.refused("no BALES ABOARD any more", () -> {
            GalleyConvoy x = Edges.busy();
            x.toss(0, 100000);
            return x;
        }, x -> x.toss(0, 1), Due.NOT);
        Edges.refused("IN PORT with a BALE ABOARD", () -> {
            GalleyConvoy x = Due.line(1, 1);
            x.galley(9, 99, 9, 9);
            Due.bale(x, 0, 0, 2, 5);
            x.start(0);
            x.day(3);
            return x;
        }, x -> x.toss(0, 1), Due.NOT);
        Edges.passes("one BALE ABOARD", () -> {
            GalleyConvoy x = Edges.busy();
            x.toss(0, 100);
            return x;
        }, x -> x.toss(0, 1), 20);
    }

    // Promise 19: "-2 is BAD here."

    private static void shipOfGalleysAndWhat() {
        Edges.within("ship of galley", Edges::busy, (x, g) -> x.ship(g, 0), Edges.from(0, 2), g -> g == 0 ? 2 : 0, -2);
        Edges.within("ship what", Edges::busy, (x, what) -> x.ship(0, what), Edges.from(0, 9), what -> what == 0 ? 2 : 1,
                -2);
        Edges.refused("no galley", GalleyConvoy::new, x -> x.ship(0, 0), -2);
        int[] atSea = {2, 1, 2, 3, 2, 4, 190, 0, 300, 1};
        int[] inPort = {1, 0, 3, 0, 0, 0, 0, 0, 0, 0};
        GalleyConvoy x = Edges.busy();
        for (int what = 0; what < 10; what++) {
            Due.due("AT SEA: ship(0, " + what + ")", x.ship(0, what), atSea[what]);
            Due.due("IN PORT: ship(1, " + what + ")", x.ship(1, what), inPort[what]);
        }
    }

    private static void shipAtHome() {
        int[] home = {0, -1, -1, 0, 0, 0, 0, 0, 40, 0};
        GalleyConvoy x = Edges.busy();
        for (int what = 0; what < 10; what++) {
            Due.due("HOME: ship(2, " + what + ")", x.ship(2, what), home[what]);
        }
    }

    // Promise 20

    private static void countOfWhat() {
        int[] counted = {3, 3, 4, 3, 3, 2, 2, 0, 0, 7};
        Edges.within("count", Edges::busy, GalleyConvoy::count, Edges.from(0, 9), what -> counted[what], Due.BAD);
        GalleyConvoy x = Edges.busy();
        for (int what = 0; what < 10; what++) {
            Due.due("count(" + what + ")", x.count(what), counted[what]);
        }
    }

    // Promise 21

    private static void coinsOfWhom() {
        Edges.within("coins", Edges::busy, GalleyConvoy::coins, Edges.from(0, 11), who -> who == 0 ? 700 : 1500,
                Due.BAD_SUM);
        Edges.passes("the last person", Edges::busy, x -> x.coins(9), 0);
        Edges.passes("THE CHEST", Edges::busy, x -> x.coins(10), 300);
    }
}
