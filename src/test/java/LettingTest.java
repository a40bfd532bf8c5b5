/** Promises 5 to 9: galleys, bids, letting, parts. */
public final class LettingTest {
    public static void main(String[] args) {
        galleys();
        bids();
        letting();
        aBidThatIsGone();
        parts();
        Due.end();
    }

    private static void galleys() {
        GalleyConvoy x = new GalleyConvoy();
        int[][] bad = {
            {0, 1, 1, 1}, {1000, 1, 1, 1}, {1, 0, 1, 1}, {1, 10000, 1, 1},
            {1, 1, 0, 1}, {1, 1, 10, 1}, {1, 1, 1, 0}, {1, 1, 1, 10000}, {-1, -1, -1, -1},
        };
        for (int[] b : bad) {
            Due.due("bad galley", x.galley(b[0], b[1], b[2], b[3]), Due.BAD);
        }
        Due.due("greatest galley", x.galley(999, 9999, 9, 9999), 0);
        for (int i = 1; i < 8; i++) {
            Due.due("galley " + i, x.galley(1, 1, 1, 1), i);
        }
        Due.due("ninth galley", x.galley(1, 1, 1, 1), Due.FULL);
        Due.due("ninth galley, bad", x.galley(1, 1, 1, 0), Due.BAD);
        Due.due("count(1)", x.count(1), 8);
        int[] fresh = {0, -1, -1, 0, 0, 0, 0, 0, 0, 0};
        for (int what = 0; what < fresh.length; what++) {
            Due.due("new galley: ship(7, " + what + ")", x.ship(7, what), fresh[what]);
        }
        Due.due("new galley: the office's parts", x.parts(7, -1), 24);
    }

    private static void bids() {
        GalleyConvoy x = new GalleyConvoy();
        Due.due("no galley", x.bid(0, 0, 1), Due.BAD);
        x.galley(1, 1, 1, 1);
        for (int i = 0; i < 11; i++) {
            x.purse(0, 100000);
        }
        x.purse(1, 50);
        Due.due("coins 0", x.bid(0, 0, 0), Due.BAD);
        Due.due("coins 1000001", x.bid(0, 0, 1000001), Due.BAD);
        Due.due("person 10", x.bid(0, 10, 1), Due.BAD);
        Due.due("person -1", x.bid(0, -1, 1), Due.BAD);
        Due.due("galley -1", x.bid(-1, 0, 1), Due.BAD);
        Due.due("galley 1", x.bid(1, 0, 1), Due.BAD);
        Due.due("purse has fewer", x.bid(0, 1, 51), Due.NOT);
        Due.due("still none", x.ship(0, 8), 0);
        Due.due("all that the purse has", x.bid(0, 1, 50), 1);
        Due.due("highest", x.ship(0, 8), 50);
        Due.due("as much", x.bid(0, 0, 50), Due.NOT);
        Due.due("less", x.bid(0, 0, 49), Due.NOT);
        Due.due("more", x.bid(0, 0, 51), 1);
        Due.due("more by the same person", x.bid(0, 0, 1000000), 1);
        Due.due("a bid takes no coins", x.coins(0), 1100000);
        Due.due("highest", x.ship(0, 8), 1000000);
        Due.due("not let yet", x.ship(0, 9), 0);
    }

    private static void letting() {
        GalleyConvoy x = new GalleyConvoy();
        Due.due("no galley", x.let(0), Due.BAD);
        x.galley(1, 1, 1, 1);
        x.galley(1, 1, 1, 1);
        Due.due("galley -1", x.let(-1), Due.BAD);
        Due.due("no bid", x.let(0), Due.NOT);
        x.purse(4, 100);
        x.purse(5, 100);
        x.bid(0, 4, 30);
        x.bid(0, 5, 40);
        Due.due("let", x.let(0), 5);
        Due.due("purse", x.coins(5), 60);
        Due.due("the other purse", x.coins(4), 100);
        Due.due("chest", x.coins(10), 40);
        Due.due("parts", x.parts(0, 5), 24);
        Due.due("the other's parts", x.parts(0, 4), 0);
        Due.due("the office's parts", x.parts(0, -1), 0);
        Due.due("the other galley's parts", x.parts(1, -1), 24);
        Due.due("is let", x.ship(0, 9), 1);
        Due.due("highest bid stands", x.ship(0, 8), 40);
        Due.due("let already", x.let(0), Due.NOT);
        Due.due("bid when let", x.bid(0, 4, 90), Due.NOT);
        Due.due("bad bid when let", x.bid(0, 4, 0), Due.BAD);
    }

    private static void aBidThatIsGone() {
        GalleyConvoy x = new GalleyConvoy();
        x.galley(1, 1, 1, 1);
        x.galley(1, 1, 1, 1);
        x.purse(0, 100);
        x.purse(1, 100);
        x.bid(0, 0, 60);
        x.bid(1, 0, 60);
        Due.due("let", x.let(0), 0);
        Due.due("fewer coins now", x.let(1), Due.NOT);
        Due.due("the bid is gone", x.ship(1, 8), 0);
        Due.due("not let", x.ship(1, 9), 0);
        Due.due("no coins went", x.coins(0), 40);
        Due.due("no bid is left", x.let(1), Due.NOT);
        Due.due("a lower bid will do", x.bid(1, 1, 1), 1);
        Due.due("let", x.let(1), 1);
        Due.due("chest", x.coins(10), 61);
    }

    private static void parts() {
        GalleyConvoy x = new GalleyConvoy();
        Due.due("no galley", x.parts(0, 0), Due.BAD);
        Due.due("no galley", x.part(0, 0, 1, 1), Due.BAD);
        x.galley(1, 1, 1, 1);
        Due.due("none has parts", x.part(0, 0, 1, 1), Due.NOT);
        x.purse(0, 5);
        x.bid(0, 0, 5);
        x.let(0);
        Due.due("n 0", x.part(0, 0, 1, 0), Due.BAD);
        Due.due("n 25", x.part(0, 0, 1, 25), Due.BAD);
        Due.due("one and the same", x.part(0, 0, 0, 1), Due.BAD);
        Due.due("from the office", x.part(0, -1, 0, 1), Due.BAD);
        Due.due("to the office", x.part(0, 0, -1, 1), Due.BAD);
        Due.due("from 10", x.part(0, 10, 1, 1), Due.BAD);
        Due.due("to 10", x.part(0, 0, 10, 1), Due.BAD);
        Due.due("galley 1", x.part(1, 0, 1, 1), Due.BAD);
        Due.due("7 to 9", x.part(0, 0, 9, 7), 7);
        Due.due("1 more to 9", x.part(0, 0, 9, 1), 8);
        Due.due("17 of 16", x.part(0, 0, 9, 17), Due.NOT);
        Due.due("16 of 16", x.part(0, 0, 1, 16), 16);
        Due.due("parts 0", x.parts(0, 0), 0);
        Due.due("parts 1", x.parts(0, 1), 16);
        Due.due("parts 9", x.parts(0, 9), 8);
        Due.due("parts -1", x.parts(0, -1), 0);
        Due.due("parts -2", x.parts(0, -2), Due.BAD);
        Due.due("parts 10", x.parts(0, 10), Due.BAD);
        Due.due("parts of galley -1", x.parts(-1, 0), Due.BAD);
    }
}
