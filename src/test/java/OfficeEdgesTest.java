/** Promises 1 to 9: every edge that the document names for a new object, purses, ports, winds, galleys, letting. */
public final class OfficeEdgesTest {
    private static final int NO_WIND = -100;

    public static void main(String[] args) {
        aNewObjectHasNothing();
        objectsShareNothing();
        theLastOfFiveHundredAndTwelveCalls();
        purseOfPersons0To9();
        purseGets1To100000();
        purseMayBeBelow0();
        legOfPort0Is0();
        legOfALaterPortIs1To9();
        portsOnlyWhileEachGalleyIsHome();
        ports0To11();
        windOfDays0To29();
        windIsMinus9To9();
        windIs0AtFirst();
        galleyNumbers();
        galleys0To7();
        partsAreTheOfficesAtFirst();
        bidForAGalleyByAPerson();
        bidOf1To1000000();
        bidForALetGalley();
        bidMoreThanTheHighest();
        bidWithinThePurse();
        letNeedsAGalleyAndABid();
        letOnce();
        letWithAllCoinsOfThePurse();
        letWithOneCoinTooFew();
        partBetweenTwoPersons();
        partOf1To24();
        partOfWhatThePersonHas();
        partsOfPersonsAndTheOffice();
        Due.end();
    }

    // Promise 1

    private static void aNewObjectHasNothing() {
        GalleyConvoy x = new GalleyConvoy();
        for (int what = 0; what <= 9; what++) {
            Due.due("new: count(" + what + ")", x.count(what), 0);
        }
        for (int who = 0; who <= 11; who++) {
            Due.due("new: coins(" + who + ")", x.coins(who), 0);
        }
        Due.due("new: no port", x.known(0, 0), Due.BAD);
        Due.due("new: no galley", x.parts(0, -1), Due.BAD);
        Due.due("new: no bale", x.about(0, 0), Due.BAD);
        Due.due("new: the tape is empty", x.vote(0), -100);
    }

    // "All memory is the class's own."
    private static void objectsShareNothing() {
        GalleyConvoy fresh = new GalleyConvoy();
        Edges.busy();
        Edges.alike("a new object beside a busy one", fresh, new GalleyConvoy());
        GalleyConvoy first = Edges.busy();
        Edges.busy();
        Edges.ended();
        Edges.alike("a busy object ahead of other ones", first, Edges.busy());
    }

    // "An object is used for at most 512 calls": the last of them is answered as the first.
    private static void theLastOfFiveHundredAndTwelveCalls() {
        GalleyConvoy x = new GalleyConvoy();
        for (int i = 1; i <= 512; i++) {
            Due.due("call " + i, x.purse(0, 100000), 100000 * i);
        }
    }

    // Promise 2

    private static void purseOfPersons0To9() {
        Edges.within("purse of person", Edges::busy, (x, who) -> x.purse(who, 7), Edges.from(0, 9),
                who -> who == 0 ? 707 : 7, Due.BAD_SUM);
    }

    private static void purseGets1To100000() {
        Edges.within("purse gets", Edges::busy, (x, v) -> x.purse(1, v), Edges.from(1, 100000), v -> 500 + v,
                Due.BAD_SUM);
    }

    private static void purseMayBeBelow0() {
        GalleyConvoy x = Due.line(1);
        x.galley(9, 99, 9, 9);
        x.bale(4, 1, Due.size(0, 1, 1), Due.price(1, 10));
        x.start(0);
        x.day(3);
        Due.due("the owner has fewer than nothing", x.coins(4), -10);
        Due.due("and gets 9", x.purse(4, 9), -1);
        Due.due("no bid", x.bid(0, 4, 1), Due.NOT);
        Due.due("and gets 1", x.purse(4, 1), 0);
        Due.due("still no bid", x.bid(0, 4, 1), Due.NOT);
        Due.due("and gets 1", x.purse(4, 1), 1);
        Due.due("a bid", x.bid(0, 4, 1), 1);
    }

    // Promise 3

    private static void legOfPort0Is0() {
        Edges.within("first port", GalleyConvoy::new, GalleyConvoy::port, Edges.from(0, 0), leg -> 0, Due.BAD);
        Edges.refused("first port: 9", GalleyConvoy::new, x -> x.port(9), Due.BAD);
    }

    private static void legOfALaterPortIs1To9() {
        Edges.within("second port", Due::line, GalleyConvoy::port, Edges.from(1, 9), leg -> 1, Due.BAD);
        Edges.within("third port", () -> Due.line(9), GalleyConvoy::port, Edges.from(1, 9), leg -> 2, Due.BAD);
    }

    private static void portsOnlyWhileEachGalleyIsHome() {
        Edges.passes("port while all are HOME", Edges::eightGalleys, x -> x.port(9), 2);
        Edges.passes("port without galleys", () -> Due.line(1), x -> x.port(1), 2);
        Edges.refused("port, the last galley IN PORT", () -> {
            GalleyConvoy x = Edges.eightGalleys();
            x.start(7);
            return x;
        }, x -> x.port(1), Due.NOT);
        Edges.refused("port, the first galley AT SEA", () -> {
            GalleyConvoy x = Edges.eightGalleys();
            x.start(0);
            x.day(1);
            return x;
        }, x -> x.port(1), Due.NOT);
        Edges.refused("port, a galley DONE", Edges::ended, x -> x.port(1), Due.NOT);
    }

    private static void ports0To11() {
        GalleyConvoy x = Due.line();
        for (int i = 1; i <= 11; i++) {
            Due.due("port " + i, x.port(i % 9 + 1), i);
        }
        Due.due("PORTS", x.count(0), 12);
        Edges.refused("the thirteenth, 1", Edges::twelvePorts, y -> y.port(1), Due.FULL);
        Edges.refused("the thirteenth, 9", Edges::twelvePorts, y -> y.port(9), Due.FULL);
    }

    // Promise 4

    private static void windOfDays0To29() {
        Edges.within("wind of day", Edges::busy, (x, day) -> x.wind(day, 1), Edges.from(0, 29), day -> 0, NO_WIND);
        Edges.passes("wind of a day that has one", Edges::busy, x -> x.wind(3, 1), -2);
    }

    private static void windIsMinus9To9() {
        Edges.within("wind", Edges::busy, (x, w) -> x.wind(5, w), Edges.from(-9, 9), w -> 4, NO_WIND);
        GalleyConvoy x = new GalleyConvoy();
        x.wind(0, -9);
        Due.due("-9 is kept", x.wind(0, 9), -9);
        Due.due("10 is not", x.wind(0, 10), NO_WIND);
        Due.due("-10 is not", x.wind(0, -10), NO_WIND);
        Due.due("9 is kept", x.wind(0, 0), 9);
    }

    private static void windIs0AtFirst() {
        GalleyConvoy x = new GalleyConvoy();
        for (int day = 0; day < 30; day++) {
            Due.due("wind of day " + day, x.wind(day, day % 10), 0);
        }
        for (int day = 0; day < 30; day++) {
            Due.due("each day has its own", x.wind(day, 0), day % 10);
        }
    }

    // Promise 5

    private static void galleyNumbers() {
        Edges.within("ROOM", Edges::busy, (x, v) -> x.galley(v, 1, 1, 1), Edges.from(1, 999), v -> 3, Due.BAD);
        Edges.within("BEARS", Edges::busy, (x, v) -> x.galley(1, v, 1, 1), Edges.from(1, 9999), v -> 3, Due.BAD);
        Edges.within("SPEED", Edges::busy, (x, v) -> x.galley(1, 1, v, 1), Edges.from(1, 9), v -> 3, Due.BAD);
        Edges.within("HULL", Edges::busy, (x, v) -> x.galley(1, 1, 1, v), Edges.from(1, 9999), v -> 3, Due.BAD);
        Edges.passes("all the greatest", Edges::busy, x -> x.galley(999, 9999, 9, 9999), 3);
    }

    private static void galleys0To7() {
        GalleyConvoy x = new GalleyConvoy();
        for (int i = 0; i < 8; i++) {
            Due.due("galley " + i, x.galley(1, 1, 1, 1), i);
        }
        Edges.refused("the ninth", Edges::eightGalleys, y -> y.galley(1, 1, 1, 1), Due.FULL);
        Due.due("BAD galley 8", Edges.eightGalleys().start(8), Due.BAD);
        Due.due("galley 7", Edges.eightGalleys().start(7), 1);
    }

    private static void partsAreTheOfficesAtFirst() {
        GalleyConvoy x = Edges.eightGalleys();
        Due.due("the office", x.parts(7, -1), 24);
        for (int who = 0; who < 10; who++) {
            Due.due("person " + who, x.parts(7, who), 0);
        }
    }

    // Promise 6

    private static void bidForAGalleyByAPerson() {
        Edges.beyond("bid for galley", Edges::busy, (x, g) -> x.bid(g, 0, 50), 0, 2, Due.BAD);
        Edges.passes("bid for the last galley", Edges::busy, x -> x.bid(2, 0, 50), 1);
        Edges.passes("bid for the first galley", Edges::eightGalleysAndCoins, x -> x.bid(0, 0, 50), 1);
        Edges.within("bid by", Edges::eightGalleysAndCoins, (x, who) -> x.bid(7, who, 50), Edges.from(0, 9), who -> 1,
                Due.BAD);
    }

    private static void bidOf1To1000000() {
        Edges.within("bid of", () -> {
            GalleyConvoy x = new GalleyConvoy();
            x.galley(1, 1, 1, 1);
            for (int i = 0; i < 11; i++) {
                x.purse(3, 100000);
            }
            return x;
        }, (x, coins) -> x.bid(0, 3, coins), Edges.from(1, 1000000), coins -> 1, Due.BAD);
    }

    private static void bidForALetGalley() {
        Edges.refused("bid when let, by another", Edges::busy, x -> x.bid(0, 1, 301), Due.NOT);
        Edges.refused("bid when let, by the same", Edges::busy, x -> x.bid(0, 0, 700), Due.NOT);
    }

    private static void bidMoreThanTheHighest() {
        Edges.refused("less than the highest", Edges::busy, x -> x.bid(2, 0, 39), Due.NOT);
        Edges.refused("as much as the highest", Edges::busy, x -> x.bid(2, 0, 40), Due.NOT);
        Edges.passes("one more than the highest", Edges::busy, x -> x.bid(2, 0, 41), 1);
        Edges.refused("as much as one's own", Edges::busy, x -> x.bid(2, 1, 40), Due.NOT);
        Edges.passes("one more than one's own", Edges::busy, x -> x.bid(2, 1, 41), 1);
    }

    private static void bidWithinThePurse() {
        Edges.refused("one more than the purse has", Edges::busy, x -> x.bid(2, 0, 701), Due.NOT);
        Edges.passes("all that the purse has", Edges::busy, x -> x.bid(2, 0, 700), 1);
        Edges.refused("an empty purse", Edges::eightGalleys, x -> x.bid(0, 0, 1), Due.NOT);
    }

    // Promise 7

    private static void letNeedsAGalleyAndABid() {
        Edges.beyond("let of galley", Edges::busy, GalleyConvoy::let, 0, 2, Due.BAD);
        Edges.passes("let of the last galley", Edges::busy, x -> x.let(2), 1);
        Edges.refused("no bid", Edges::busy, x -> x.let(1), Due.NOT);
        Edges.refused("no galley", GalleyConvoy::new, x -> x.let(0), Due.BAD);
    }

    private static void letOnce() {
        Edges.refused("let already", Edges::busy, x -> x.let(0), Due.NOT);
    }

    /** Galleys 0 and 1, both with a bid of 60 by person 0, who has 60 and some coins. */
    private static GalleyConvoy twoBids(int coins) {
        GalleyConvoy x = Due.line(1);
        x.galley(1, 1, 1, 1);
        x.galley(1, 1, 1, 1);
        x.purse(0, 60 + coins);
        x.bid(0, 0, 60);
        x.bid(1, 0, 60);
        x.let(0);
        return x;
    }

    private static void letWithAllCoinsOfThePurse() {
        GalleyConvoy x = twoBids(60);
        Due.due("let with all that the purse has", x.let(1), 0);
        Due.due("nothing is left", x.coins(0), 0);
        Due.due("the chest", x.coins(10), 120);
        Due.due("all parts", x.parts(1, 0), 24);
    }

    private static void letWithOneCoinTooFew() {
        GalleyConvoy x = twoBids(59);
        Due.due("the bid stands till then", x.ship(1, 8), 60);
        Due.due("let with one coin too few", x.let(1), Due.NOT);
        Due.due("the bid is gone", x.ship(1, 8), 0);
        GalleyConvoy without = Due.line(1);
        without.galley(1, 1, 1, 1);
        without.galley(1, 1, 1, 1);
        without.purse(0, 119);
        without.bid(0, 0, 60);
        without.let(0);
        Edges.alike("all is as if it had never been made", x, without);
        GalleyConvoy later = twoBids(59);
        later.let(1);
        later.purse(0, 1);
        Due.due("coins that come later bring no bid back", later.let(1), Due.NOT);
        Due.due("the least bid passes again", later.bid(1, 0, 1), 1);
    }

    // Promise 8

    private static void partBetweenTwoPersons() {
        Edges.beyond("part of galley", Edges::busy, (x, g) -> x.part(g, 0, 2, 1), 0, 2, Due.BAD);
        Edges.within("part to", Edges::busy, (x, to) -> x.part(0, 1, to, 1), Edges.from(0, 9), to -> to == 0 ? 15 : 1,
                Due.BAD);
        Edges.beyond("part from", Edges::busy, (x, from) -> x.part(0, from, 2, 1), 0, 9, Due.BAD);
        Edges.passes("part from 0", Edges::busy, x -> x.part(0, 0, 9, 1), 1);
        Edges.passes("part from 9", () -> {
            GalleyConvoy x = Edges.busy();
            x.part(0, 1, 9, 1);
            return x;
        }, x -> x.part(0, 9, 0, 1), 15);
        Edges.refused("from the office, that has them", Edges::busy, x -> x.part(1, -1, 0, 1), Due.BAD);
        for (int who = 0; who < 10; who++) {
            int same = who;
            Edges.refused("one and the same", Edges::busy, x -> x.part(0, same, same, 1), Due.BAD);
        }
    }

    private static void partOf1To24() {
        Edges.within("n", () -> {
            GalleyConvoy x = Edges.busy();
            x.let(2);
            return x;
        }, (x, n) -> x.part(2, 1, 5, n), Edges.from(1, 24), n -> n, Due.BAD);
    }

    private static void partOfWhatThePersonHas() {
        Edges.passes("all 14 of 14", Edges::busy, x -> x.part(0, 0, 1, 14), 24);
        Edges.refused("15 of 14", Edges::busy, x -> x.part(0, 0, 1, 15), Due.NOT);
        Edges.refused("24 of 14", Edges::busy, x -> x.part(0, 0, 1, 24), Due.NOT);
        Edges.refused("1 of none", Edges::busy, x -> x.part(0, 2, 1, 1), Due.NOT);
        Edges.refused("1 of a galley that is not let", Edges::busy, x -> x.part(1, 0, 1, 1), Due.NOT);
    }

    // Promise 9

    private static void partsOfPersonsAndTheOffice() {
        Edges.within("parts of galley", Edges::busy, (x, g) -> x.parts(g, -1), Edges.from(0, 2), g -> g == 0 ? 0 : 24,
                Due.BAD);
        Edges.within("parts of", Edges::busy, (x, who) -> x.parts(1, who), Edges.from(-1, 9), who -> who < 0 ? 24 : 0,
                Due.BAD);
        Edges.passes("parts of person 0", Edges::busy, x -> x.parts(0, 0), 14);
        Edges.passes("parts of person 1", Edges::busy, x -> x.parts(0, 1), 10);
    }
}
