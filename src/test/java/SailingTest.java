/** Promises 16, 17 and 19: starting, days, stays, waits, lading, giving out. */
public final class SailingTest {
    public static void main(String[] args) {
        starting();
        days();
        aWholeVoyage();
        windsOfDays();
        stays();
        waits();
        aWaitIsAskedOnlyForThoseOnTheirWayThere();
        hereChangesWithinADay();
        ladingByRank();
        ladingWithinRoomAndBears();
        heavyBales();
        ladingSeesTheGalleyAsItWas();
        freights();
        shipAnswers();
        Due.end();
    }

    private static void starting() {
        GalleyConvoy x = new GalleyConvoy();
        Due.due("no galley", x.start(0), Due.BAD);
        x.galley(1, 1, 1, 1);
        Due.due("galley -1", x.start(-1), Due.BAD);
        Due.due("galley 1", x.start(1), Due.BAD);
        Due.due("no port", x.start(0), Due.NOT);
        x.port(0);
        Due.due("one port", x.start(0), Due.NOT);
        x.port(1);
        x.day(7);
        Due.due("start", x.start(0), 1);
        Due.due("IN PORT", x.ship(0, 0), 1);
        Due.due("port 0", x.ship(0, 1), 0);
        Due.due("since today", x.ship(0, 2), 7);
        Due.due("not HOME", x.start(0), Due.NOT);
    }

    private static void days() {
        GalleyConvoy x = new GalleyConvoy();
        Due.due("day(0)", x.day(0), Due.BAD);
        Due.due("day(-1)", x.day(-1), Due.BAD);
        Due.due("day(101)", x.day(101), Due.BAD);
        Due.due("day(MAX)", x.day(Integer.MAX_VALUE), Due.BAD);
        for (int i = 1; i < 20; i++) {
            Due.due("day(100)", x.day(100), 100 * i);
        }
        Due.due("day(1)", x.day(1), 1901);
        Due.due("beyond 2000", x.day(100), Due.BAD);
        Due.due("nothing went by", x.count(4), 1901);
        Due.due("up to 2000", x.day(99), 2000);
        Due.due("beyond 2000", x.day(1), Due.BAD);
    }

    private static void aWholeVoyage() {
        GalleyConvoy x = Due.line(1, 2);
        x.galley(5, 50, 4, 1);
        x.start(0);
        Due.due("WAY in port", x.ship(0, 3), 0);
        x.day(1);
        state(x, "day 1", 2, 1, 1, 0);
        x.day(1);
        state(x, "day 2", 2, 1, 1, 4);
        x.day(1);
        state(x, "day 3", 2, 1, 1, 8);
        x.day(1);
        state(x, "day 4", 1, 1, 4, 0);
        x.day(1);
        state(x, "day 5", 2, 2, 5, 0);
        x.day(4);
        state(x, "day 9", 2, 2, 5, 16);
        x.day(1);
        state(x, "day 10", 1, 2, 10, 0);
        x.day(1);
        state(x, "day 11", 3, 2, 10, 0);
        x.day(50);
        state(x, "day 61", 3, 2, 10, 0);
    }

    private static void state(GalleyConvoy x, String when, int state, int port, int since, int way) {
        Due.due(when + ": state", x.ship(0, 0), state);
        Due.due(when + ": port", x.ship(0, 1), port);
        Due.due(when + ": since", x.ship(0, 2), since);
        Due.due(when + ": way", x.ship(0, 3), way);
    }

    private static void windsOfDays() {
        GalleyConvoy x = Due.line(9);
        x.galley(5, 50, 5, 1);
        x.wind(0, 3);
        x.wind(1, 9);
        x.wind(29, -9);
        x.wind(2, -4);
        x.day(27);
        x.start(0);
        x.day(1);
        Due.due("day 28: it leaves", x.ship(0, 3), 0);
        x.day(1);
        Due.due("day 29: against the wind, at least by 1", x.ship(0, 3), 1);
        x.day(1);
        Due.due("day 30 is 0", x.ship(0, 3), 9);
        x.day(1);
        Due.due("day 31 is 1", x.ship(0, 3), 23);
        x.day(1);
        Due.due("day 32 is 2: 5 less 4", x.ship(0, 3), 24);
        x.wind(3, -5);
        x.day(1);
        Due.due("day 33: 5 less 5, at least by 1", x.ship(0, 3), 25);
    }

    private static int leavesOn(String stay) {
        GalleyConvoy x = Due.line(9);
        x.galley(5, 50, 1, 1);
        Due.vote(x, 0, stay);
        x.start(0);
        for (int day = 1; day <= 40; day++) {
            x.day(1);
            if (x.ship(0, 0) == 2) {
                return day;
            }
        }
        return -1;
    }

    private static void stays() {
        Due.due("STAY 0: not on the day it came", leavesOn("0"), 1);
        Due.due("STAY 1", leavesOn("1"), 1);
        Due.due("STAY 2", leavesOn("2"), 2);
        Due.due("STAY -5 is 0", leavesOn("-5"), 1);
        Due.due("STAY 30", leavesOn("30"), 30);
        Due.due("STAY 31 is 30", leavesOn("31"), 30);
        Due.due("STAY 99999 is 30", leavesOn("99999"), 30);
        Due.due("STAY is worked out each day", leavesOn("(day<6)*30"), 6);
        Due.due("stayed more than STAY says now", leavesOn("(day<6)*30+4"), 6);
    }

    private static void waits() {
        GalleyConvoy x = Due.line(1, 9);
        Due.vote(x, 2, "late<4 and ship=1");
        x.galley(5, 50, 9, 1);
        x.galley(5, 50, 1, 1);
        x.start(0);
        x.start(1);
        x.day(3);
        Due.due("0 is in port 1", x.ship(0, 0) * 10 + x.ship(0, 1), 11);
        Due.due("since day 3", x.ship(0, 2), 3);
        x.day(3);
        Due.due("day 6: late is 3", x.ship(0, 0), 1);
        x.day(1);
        Due.due("day 7: late is 4", x.ship(0, 0), 2);
        GalleyConvoy y = Due.line(1, 9);
        Due.vote(y, 2, "ship=0");
        y.galley(5, 50, 9, 1);
        y.galley(5, 50, 1, 1);
        y.start(0);
        y.start(1);
        y.day(4);
        Due.due("not for galley 1", y.ship(0, 0), 2);
        GalleyConvoy z = Due.line(1, 9);
        Due.vote(z, 2, "0-1");
        z.galley(5, 50, 9, 1);
        z.galley(5, 50, 1, 1);
        z.start(0);
        z.start(1);
        z.day(4);
        Due.due("WAIT below 0 is no wait", z.ship(0, 0), 2);
    }

    private static void aWaitIsAskedOnlyForThoseOnTheirWayThere() {
        GalleyConvoy x = Due.line(1, 1, 1);
        Due.vote(x, 2, "1");
        x.galley(5, 50, 9, 1);
        x.galley(5, 50, 1, 1);
        x.galley(5, 50, 1, 1);
        x.start(0);
        x.day(1);
        Due.due("those at HOME are not waited for", x.ship(0, 0), 2);
        x.start(1);
        x.day(2);
        Due.due("0 is in port 1", x.ship(0, 0) * 10 + x.ship(0, 1), 11);
        Due.due("1 is AT SEA", x.ship(1, 0) * 10 + x.ship(1, 1), 21);
        x.day(8);
        Due.due("0 waits for 1", x.ship(0, 0) * 10 + x.ship(0, 1), 11);
        Due.due("1 is AT SEA still", x.ship(1, 0) * 100 + x.ship(1, 3), 209);
        x.day(1);
        Due.due("1 comes behind 0's turn", x.ship(0, 0) * 10 + x.ship(1, 0), 11);
        x.day(1);
        Due.due("both leave", x.ship(0, 0) * 10 + x.ship(1, 0), 22);
        x.start(2);
        x.day(2);
        Due.due("0 has come to port 2, 1 has not", x.ship(0, 1) * 100 + x.ship(0, 0) * 10 + x.ship(1, 0), 212);
        x.day(8);
        Due.due("1 comes to port 2", x.ship(1, 0) * 10 + x.ship(1, 1), 12);
    }

    private static void hereChangesWithinADay() {
        GalleyConvoy x = Due.line(9);
        // With three in port each stays; a galley that leaves is no longer here for the next one.
        Due.vote(x, 0, "(here=1)*30");
        for (int i = 0; i < 3; i++) {
            x.galley(5, 50, 1, 1);
            x.start(i);
        }
        x.day(1);
        Due.due("0 leaves", x.ship(0, 0), 2);
        Due.due("1 leaves", x.ship(1, 0), 2);
        Due.due("2 is alone and stays", x.ship(2, 0), 1);
    }

    private static void ladingByRank() {
        GalleyConvoy x = Due.line(1, 1);
        x.galley(3, 999, 5, 1);
        Due.vote(x, 1, "weight-3");
        int[] weights = {5, 9, 3, 9, 2, 7, 9};
        for (int w : weights) {
            Due.bale(x, 0, 0, 1, w);
        }
        Due.bale(x, 0, 1, 2, 99);
        x.start(0);
        x.day(1);
        int[] aboard = {0, 1, 0, 1, 0, 0, 1, 0};
        for (int b = 0; b < aboard.length; b++) {
            Due.due("state of bale " + b, x.about(b, 9), aboard[b]);
        }
        GalleyConvoy y = Due.line(1, 1);
        y.galley(9, 999, 5, 1);
        Due.vote(y, 1, "weight-3");
        for (int w : weights) {
            Due.bale(y, 0, 0, 1, w);
        }
        y.start(0);
        y.day(1);
        int[] then = {1, 1, 0, 1, 0, 1, 1};
        for (int b = 0; b < then.length; b++) {
            Due.due("with room for all, bale " + b, y.about(b, 9), then[b]);
        }
        Due.due("BALES ABOARD", y.ship(0, 4), 5);
        Due.due("their WEIGHT", y.ship(0, 6), 39);
    }

    private static void ladingWithinRoomAndBears() {
        GalleyConvoy x = Due.line(1, 1);
        x.galley(10, 100, 5, 1);
        x.bale(0, 1, Due.size(0, 6, 10), Due.price(1, 0));
        x.bale(0, 2, Due.size(0, 5, 10), Due.price(1, 0));
        x.bale(0, 2, Due.size(2, 3, 60), Due.price(1, 0));
        x.bale(0, 2, Due.size(0, 1, 31), Due.price(1, 0));
        x.bale(0, 2, Due.size(0, 1, 30), Due.price(1, 0));
        x.bale(0, 102, Due.size(0, 7, 10), Due.price(1, 0));
        x.bale(0, 102, Due.size(0, 6, 10), Due.price(1, 0));
        x.start(0);
        x.day(1);
        int[] first = {1, 0, 1, 0, 1, 0, 0};
        for (int b = 0; b < first.length; b++) {
            Due.due("out of port 0, bale " + b, x.about(b, 9), first[b]);
        }
        Due.due("ROOM aboard", x.ship(0, 5), 10);
        Due.due("WEIGHT aboard", x.ship(0, 6), 100);
        x.day(2);
        Due.due("0 is given out", x.about(0, 9), 2);
        x.day(1);
        Due.due("out of port 1: room 7 of 6", x.about(5, 9), 0);
        Due.due("out of port 1: room 6 of 6", x.about(6, 9), 1);
        Due.due("ROOM aboard", x.ship(0, 5), 10);
        Due.due("WEIGHT aboard", x.ship(0, 6), 100);
        Due.due("BALES aboard", x.ship(0, 4), 3);
    }

    private static void heavyBales() {
        GalleyConvoy x = Due.line(1, 1);
        // Half of 101 is 50, the rest away.
        x.galley(99, 101, 5, 1);
        x.bale(0, 2, Due.size(1, 1, 51), Due.price(1, 0));
        x.bale(0, 1, Due.size(1, 1, 20), Due.price(1, 0));
        x.bale(0, 2, Due.size(1, 1, 31), Due.price(1, 0));
        x.bale(0, 2, Due.size(1, 1, 30), Due.price(1, 0));
        x.bale(0, 2, Due.size(0, 1, 40), Due.price(1, 0));
        x.bale(0, 2, Due.size(1, 1, 1), Due.price(1, 0));
        x.bale(0, 102, Due.size(1, 1, 21), Due.price(1, 0));
        x.bale(0, 102, Due.size(1, 1, 20), Due.price(1, 0));
        x.start(0);
        x.day(1);
        int[] first = {0, 1, 0, 1, 1, 0, 0, 0};
        for (int b = 0; b < first.length; b++) {
            Due.due("out of port 0, bale " + b, x.about(b, 9), first[b]);
        }
        x.day(3);
        Due.due("out of port 1: HEAVY 30 and 21", x.about(6, 9), 0);
        Due.due("out of port 1: HEAVY 30 and 20", x.about(7, 9), 1);
    }

    private static void ladingSeesTheGalleyAsItWas() {
        GalleyConvoy x = Due.line(1, 1);
        x.galley(99, 999, 5, 1);
        Due.vote(x, 1, "(full=0)*(here=1)");
        for (int i = 0; i < 4; i++) {
            Due.bale(x, 0, 0, 1, 5);
        }
        x.start(0);
        x.day(1);
        Due.due("all four, though the first made it heavier", x.ship(0, 4), 4);
    }

    private static void freights() {
        GalleyConvoy x = Due.line(1);
        x.galley(9, 999, 5, 1);
        x.purse(0, 100);
        x.bid(0, 0, 100);
        x.let(0);
        x.part(0, 0, 1, 7);
        x.part(0, 0, 2, 7);
        x.bale(3, 1, Due.size(0, 1, 1), Due.price(1, 100));
        x.bale(1, 1, Due.size(0, 1, 1), Due.price(1, 11));
        x.bale(3, 1, Due.size(0, 1, 1), Due.price(1, 0));
        x.start(0);
        x.day(1);
        Due.due("nothing is paid ahead", x.ship(0, 7), 0);
        x.day(2);
        // 100: 41, 29, 29, and 1 left; 11: 4, 3, 3, and 1 left.
        Due.due("owner 3", x.coins(3), -100);
        Due.due("person 0", x.coins(0), 45);
        Due.due("person 1", x.coins(1), 29 + 3 - 11);
        Due.due("person 2", x.coins(2), 32);
        Due.due("chest", x.coins(10), 102);
        Due.due("all freights", x.ship(0, 7), 111);
        Due.due("none aboard", x.ship(0, 4), 0);
        Due.due("no room", x.ship(0, 5), 0);
        Due.due("no weight", x.ship(0, 6), 0);
        GalleyConvoy y = Due.line(1);
        y.galley(9, 999, 5, 1);
        y.bale(3, 1, Due.size(0, 1, 1), Due.price(1, 23));
        y.start(0);
        y.day(3);
        Due.due("not let: all for the chest", y.coins(10), 23);
        Due.due("owner", y.coins(3), -23);
    }

    private static void shipAnswers() {
        GalleyConvoy x = Due.line(1);
        Due.due("no galley", x.ship(0, 0), -2);
        x.galley(9, 999, 5, 1);
        Due.due("ship(-1, 0)", x.ship(-1, 0), -2);
        Due.due("ship(1, 0)", x.ship(1, 0), -2);
        Due.due("ship(0, 10)", x.ship(0, 10), -2);
        Due.due("ship(0, -1)", x.ship(0, -1), -2);
        Due.due("HOME: port", x.ship(0, 1), -1);
        Due.due("HOME: day", x.ship(0, 2), -1);
    }
}
