/**
 * "Answers, of several the one named first: BAD; NOT; FULL." Each call for which two or three of them are true
 * at once gives the first, and changes nothing.
 */
public final class FirstNamedTest {
    public static void main(String[] args) {
        portBadNotFull();
        galleyBadFull();
        bidBadNot();
        letBadAheadOfNot();
        partBadNot();
        baleBadFull();
        feedBadFull();
        voteBadFullFault();
        knownBadNot();
        startBadNot();
        tossBadNot();
        Due.end();
    }

    /** Twelve ports, and a galley that is not HOME. */
    private static GalleyConvoy fullAndSailing() {
        GalleyConvoy x = Edges.twelvePorts();
        x.galley(9, 99, 9, 9);
        x.start(0);
        return x;
    }

    private static void portBadNotFull() {
        Edges.refused("port: BAD, NOT, FULL", FirstNamedTest::fullAndSailing, x -> x.port(0), Due.BAD);
        Edges.refused("port: BAD, NOT, FULL", FirstNamedTest::fullAndSailing, x -> x.port(10), Due.BAD);
        Edges.refused("port: NOT, FULL", FirstNamedTest::fullAndSailing, x -> x.port(1), Due.NOT);
        Edges.refused("port: BAD, FULL", Edges::twelvePorts, x -> x.port(0), Due.BAD);
        Edges.refused("port: BAD, FULL", Edges::twelvePorts, x -> x.port(10), Due.BAD);
        Edges.refused("port: BAD, NOT", Edges::busy, x -> x.port(0), Due.BAD);
        Edges.refused("port: BAD, NOT", Edges::busy, x -> x.port(10), Due.BAD);
    }

    private static void galleyBadFull() {
        Edges.refused("ROOM", Edges::eightGalleys, x -> x.galley(0, 1, 1, 1), Due.BAD);
        Edges.refused("BEARS", Edges::eightGalleys, x -> x.galley(1, 10000, 1, 1), Due.BAD);
        Edges.refused("SPEED", Edges::eightGalleys, x -> x.galley(1, 1, 10, 1), Due.BAD);
        Edges.refused("HULL", Edges::eightGalleys, x -> x.galley(1, 1, 1, 0), Due.BAD);
    }

    private static void bidBadNot() {
        Edges.refused("coins 0, let already", Edges::busy, x -> x.bid(0, 0, 0), Due.BAD);
        Edges.refused("coins 0, less than the highest", Edges::busy, x -> x.bid(2, 0, 0), Due.BAD);
        Edges.refused("coins 1000001, the purse has fewer", Edges::busy, x -> x.bid(2, 0, 1000001), Due.BAD);
        Edges.refused("person 10, let already", Edges::busy, x -> x.bid(0, 10, 400), Due.BAD);
        Edges.refused("person -1, less than the highest", Edges::busy, x -> x.bid(2, -1, 1), Due.BAD);
        Edges.refused("galley 3, the purse has fewer", Edges::busy, x -> x.bid(3, 0, 1000), Due.BAD);
    }

    private static void letBadAheadOfNot() {
        Edges.refused("galley 3 has no bid either", Edges::busy, x -> x.let(3), Due.BAD);
        Edges.refused("galley -1 has no bid either", Edges::busy, x -> x.let(-1), Due.BAD);
    }

    private static void partBadNot() {
        Edges.refused("n 25, the first has fewer", Edges::busy, x -> x.part(0, 0, 1, 25), Due.BAD);
        Edges.refused("one and the same, the first has fewer", Edges::busy, x -> x.part(0, 2, 2, 1), Due.BAD);
        Edges.refused("to 10, the first has fewer", Edges::busy, x -> x.part(0, 2, 10, 1), Due.BAD);
        Edges.refused("galley 3, the first has fewer", Edges::busy, x -> x.part(3, 0, 1, 1), Due.BAD);
        Edges.refused("n 0, the first has none", Edges::busy, x -> x.part(0, 2, 1, 0), Due.BAD);
    }

    private static void baleBadFull() {
        int size = Due.size(0, 1, 1);
        int price = Due.price(1, 0);
        Edges.refused("owner", () -> Edges.bales(300), x -> x.bale(10, 1, size, price), Due.BAD);
        Edges.refused("ports", () -> Edges.bales(300), x -> x.bale(0, 3, size, price), Due.BAD);
        Edges.refused("size", () -> Edges.bales(300), x -> x.bale(0, 1, 1000, price), Due.BAD);
        Edges.refused("price", () -> Edges.bales(300), x -> x.bale(0, 1, size, 999), Due.BAD);
    }

    private static void feedBadFull() {
        Edges.refused("0 bytes to 200", () -> Edges.bytes(200), x -> x.feed(0, 55), Due.BAD);
        Edges.refused("5 bytes to 200", () -> Edges.bytes(200), x -> x.feed(5, 55), Due.BAD);
        Edges.refused("5 bytes to 196", () -> Edges.bytes(196), x -> x.feed(5, 55), Due.BAD);
    }

    private static GalleyConvoy thirtyVotesAnd(String tape) {
        GalleyConvoy x = Edges.votes(30);
        Due.put(x, tape);
        return x;
    }

    private static void voteBadFullFault() {
        Edges.refused("BAD, FULL", () -> thirtyVotesAnd("1"), x -> x.vote(3), Due.BAD);
        Edges.refused("BAD, FULL, a FAULT", () -> thirtyVotesAnd("1+"), x -> x.vote(-1), Due.BAD);
        Edges.refused("FULL, a FAULT", () -> thirtyVotesAnd("1+"), x -> x.vote(0), Due.FULL);
        Edges.refused("FULL, an empty tape", () -> thirtyVotesAnd(""), x -> x.vote(0), Due.FULL);
        Edges.refused("BAD, a FAULT", () -> {
            GalleyConvoy x = Edges.votes(3);
            Due.put(x, "1+");
            return x;
        }, x -> x.vote(3), Due.BAD);
    }

    private static void knownBadNot() {
        Edges.refused("kind 3, none known", () -> Due.line(1), x -> x.known(3, 0), Due.BAD);
        Edges.refused("port 2, none known", () -> Due.line(1), x -> x.known(0, 2), Due.BAD);
    }

    private static void startBadNot() {
        Edges.refused("no galley, no ports", GalleyConvoy::new, x -> x.start(0), Due.BAD);
        Edges.refused("no galley, one port", Due::line, x -> x.start(0), Due.BAD);
    }

    private static void tossBadNot() {
        Edges.refused("weight 0, HOME", Edges::busy, x -> x.toss(2, 0), Due.BAD);
        Edges.refused("weight 100001, IN PORT", Edges::busy, x -> x.toss(1, 100001), Due.BAD);
        Edges.refused("weight 0, no BALES ABOARD", () -> {
            GalleyConvoy x = Edges.busy();
            x.toss(0, 100000);
            return x;
        }, x -> x.toss(0, 0), Due.BAD);
    }
}
