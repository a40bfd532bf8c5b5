/** Promise 18: goods thrown out for all, and the loss shared by all. */
public final class TossTest {
    public static void main(String[] args) {
        wrongTosses();
        theHeaviestFirst();
        sharedLoss();
        aGreatLoss();
        Due.end();
    }

    private static void wrongTosses() {
        GalleyConvoy x = Due.line(1, 1);
        Due.due("no galley", x.toss(0, 1), Due.BAD);
        x.galley(9, 999, 5, 100);
        Due.due("galley -1", x.toss(-1, 1), Due.BAD);
        Due.due("galley 1", x.toss(1, 1), Due.BAD);
        Due.due("weight 0", x.toss(0, 0), Due.BAD);
        Due.due("weight -1", x.toss(0, -1), Due.BAD);
        Due.due("weight 100001", x.toss(0, 100001), Due.BAD);
        Due.due("HOME", x.toss(0, 1), Due.NOT);
        Due.bale(x, 0, 0, 2, 5);
        x.start(0);
        Due.due("IN PORT", x.toss(0, 1), Due.NOT);
        x.day(3);
        Due.due("IN PORT with a bale", x.ship(0, 0) * 10 + x.ship(0, 4), 11);
        Due.due("IN PORT with a bale: toss", x.toss(0, 1), Due.NOT);
        x.day(1);
        Due.due("AT SEA", x.toss(0, 100000), 1);
        Due.due("no bales are left", x.toss(0, 1), Due.NOT);
        Due.due("no bales are left, weight 0", x.toss(0, 0), Due.BAD);
        x.day(9);
        Due.due("DONE", x.toss(0, 1), Due.NOT);
    }

    private static void theHeaviestFirst() {
        GalleyConvoy x = Due.line(9);
        x.galley(99, 999, 5, 100);
        int[] weights = {5, 9, 3, 9, 2};
        for (int w : weights) {
            Due.bale(x, 0, 0, 1, w);
        }
        x.start(0);
        x.day(1);
        Due.due("9 is enough for 9", x.toss(0, 9), 1);
        Due.due("the first of the heaviest", x.about(1, 9), 3);
        Due.due("the second is aboard", x.about(3, 9), 1);
        Due.due("weight aboard", x.ship(0, 6), 19);
        Due.due("9 is too little for 10", x.toss(0, 10), 2);
        Due.due("the second of the heaviest", x.about(3, 9), 3);
        Due.due("the next one", x.about(0, 9), 3);
        Due.due("bales aboard", x.ship(0, 4), 2);
        Due.due("room aboard", x.ship(0, 5), 2);
        Due.due("weight aboard", x.ship(0, 6), 5);
        Due.due("till none is left", x.toss(0, 6), 2);
        Due.due("bales aboard", x.ship(0, 4), 0);
        Due.due("count(8)", x.count(8), 5);
    }

    private static void sharedLoss() {
        GalleyConvoy x = Due.line(9);
        x.galley(99, 999, 5, 100);
        x.bale(0, 1, Due.size(0, 1, 50), Due.price(70, 5));
        x.bale(1, 1, Due.size(0, 1, 40), Due.price(33, 5));
        x.bale(2, 1, Due.size(0, 1, 30), Due.price(17, 5));
        x.bale(0, 1, Due.size(0, 1, 20), Due.price(9, 5));
        x.bale(9, 1, Due.size(0, 90, 20), Due.price(9999, 5));
        Due.vote(x, 1, "room<90");
        x.start(0);
        x.day(1);
        // All worths and the hull: 229. Loss 103: 31, 14, 7, 4, and 47 left for the chest.
        Due.due("loss", x.toss(0, 90), 103);
        Due.due("owner of two, one of them thrown", x.coins(0), 70 - 31 - 4);
        Due.due("owner of a thrown one", x.coins(1), 33 - 14);
        Due.due("owner of one that is aboard", x.coins(2), -7);
        Due.due("owner of one that never was aboard", x.coins(9), 0);
        Due.due("chest", x.coins(10), -47);
        Due.due("no freight is paid", x.ship(0, 7), 0);
        x.day(50);
        Due.due("only what is aboard pays freight", x.ship(0, 7), 10);
        Due.due("owner of a thrown one pays none", x.coins(1), 33 - 14);
    }

    /** A loss times a worth is more than an int holds here. */
    private static void aGreatLoss() {
        GalleyConvoy x = Due.line(9);
        x.galley(999, 9999, 5, 9999);
        for (int i = 0; i < 300; i++) {
            x.bale(i % 10, 1, Due.size(0, 1, 1), Due.price(9999, 0));
        }
        x.start(0);
        x.day(1);
        Due.due("loss", x.toss(0, 100000), 2999700);
        long share = 2999700L * 9999 / (301L * 9999);
        for (int person = 0; person < 10; person++) {
            Due.due("person " + person, x.coins(person), 30 * (9999 - share));
        }
        Due.due("chest", x.coins(10), -(2999700 - 300 * share));
    }
}
