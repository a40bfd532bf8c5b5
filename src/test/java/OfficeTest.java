/** Promises 1 to 4, 20 and 21: a new object, purses, ports, winds, counts and coins. */
public final class OfficeTest {
    public static void main(String[] args) {
        aNewObject();
        purses();
        ports();
        portsOnlyWhileAllAreHome();
        winds();
        counts();
        Due.end();
    }

    private static void aNewObject() {
        GalleyConvoy x = new GalleyConvoy();
        for (int what = 0; what <= 9; what++) {
            Due.due("new: count(" + what + ")", x.count(what), 0);
        }
        for (int who = 0; who <= 11; who++) {
            Due.due("new: coins(" + who + ")", x.coins(who), 0);
        }
        for (int day = 0; day < 30; day++) {
            Due.due("new: wind(" + day + ", 0)", x.wind(day, 0), 0);
        }
        Due.due("new: ship(0, 0)", x.ship(0, 0), -2);
        Due.due("new: about(0, 0)", x.about(0, 0), Due.BAD);
        Due.due("new: known(0, 0)", x.known(0, 0), Due.BAD);
    }

    private static void purses() {
        GalleyConvoy x = new GalleyConvoy();
        Due.due("purse(0, 1)", x.purse(0, 1), 1);
        Due.due("purse(0, 100000)", x.purse(0, 100000), 100001);
        Due.due("purse(9, 7)", x.purse(9, 7), 7);
        Due.due("purse(10, 7)", x.purse(10, 7), Due.BAD_SUM);
        Due.due("purse(-1, 7)", x.purse(-1, 7), Due.BAD_SUM);
        Due.due("purse(0, 0)", x.purse(0, 0), Due.BAD_SUM);
        Due.due("purse(0, -5)", x.purse(0, -5), Due.BAD_SUM);
        Due.due("purse(0, 100001)", x.purse(0, 100001), Due.BAD_SUM);
        Due.due("coins(0)", x.coins(0), 100001);
        Due.due("coins(9)", x.coins(9), 7);
        Due.due("coins(10)", x.coins(10), 0);
        Due.due("coins(11)", x.coins(11), 100008);
        Due.due("coins(12)", x.coins(12), Due.BAD_SUM);
        Due.due("coins(-1)", x.coins(-1), Due.BAD_SUM);
    }

    private static void ports() {
        GalleyConvoy x = new GalleyConvoy();
        Due.due("first port(1)", x.port(1), Due.BAD);
        Due.due("first port(-1)", x.port(-1), Due.BAD);
        Due.due("first port(0)", x.port(0), 0);
        Due.due("second port(0)", x.port(0), Due.BAD);
        Due.due("second port(10)", x.port(10), Due.BAD);
        Due.due("second port(9)", x.port(9), 1);
        for (int i = 2; i < 12; i++) {
            Due.due("port " + i, x.port(1), i);
        }
        Due.due("thirteenth port(1)", x.port(1), Due.FULL);
        Due.due("thirteenth port(0): BAD is named ahead of FULL", x.port(0), Due.BAD);
        Due.due("count(0)", x.count(0), 12);
        x.galley(1, 1, 1, 1);
        x.start(0);
        Due.due("thirteenth port(1): NOT is named ahead of FULL", x.port(1), Due.NOT);
    }

    private static void portsOnlyWhileAllAreHome() {
        GalleyConvoy x = Due.line(1);
        x.galley(1, 1, 9, 1);
        x.galley(1, 1, 9, 1);
        Due.due("all HOME: port(1)", x.port(1), 2);
        x.start(1);
        Due.due("one IN PORT: port(1)", x.port(1), Due.NOT);
        Due.due("one IN PORT: port(0)", x.port(0), Due.BAD);
        x.day(1);
        Due.due("one AT SEA: port(1)", x.port(1), Due.NOT);
        x.day(20);
        Due.due("it is DONE", x.ship(1, 0), 3);
        Due.due("one DONE: port(1)", x.port(1), Due.NOT);
    }

    private static void winds() {
        GalleyConvoy x = new GalleyConvoy();
        Due.due("wind(0, 9)", x.wind(0, 9), 0);
        Due.due("wind(0, -9)", x.wind(0, -9), 9);
        Due.due("wind(0, 10)", x.wind(0, 10), -100);
        Due.due("wind(0, -10)", x.wind(0, -10), -100);
        Due.due("wind(30, 1)", x.wind(30, 1), -100);
        Due.due("wind(-1, 1)", x.wind(-1, 1), -100);
        Due.due("wind(0, 0)", x.wind(0, 0), -9);
        Due.due("wind(29, 3)", x.wind(29, 3), 0);
        Due.due("wind(29, 4)", x.wind(29, 4), 3);
    }

    private static void counts() {
        GalleyConvoy x = Due.line(1, 1);
        x.galley(9, 9, 9, 9);
        for (int i = 0; i < 9; i++) {
            Due.bale(x, 0, 0, i == 0 ? 1 : 2, 1 + i % 3);
        }
        Due.vote(x, 1, "freight+1");
        x.feed(3, 0);
        x.start(0);
        x.day(1);
        Due.due("count(0)", x.count(0), 3);
        Due.due("count(1)", x.count(1), 1);
        Due.due("count(2)", x.count(2), 9);
        Due.due("count(3)", x.count(3), 1);
        Due.due("count(4)", x.count(4), 1);
        // Weights 1 2 3 1 2 are 9 together.
        Due.due("count(5)", x.count(5), 4);
        Due.due("count(6)", x.count(6), 5);
        Due.due("count(9)", x.count(9), 3);
        x.toss(0, 4);
        Due.due("count(6) after toss", x.count(6), 3);
        Due.due("count(8) after toss", x.count(8), 2);
        x.day(2);
        Due.due("count(7) in port 1", x.count(7), 1);
        x.day(10);
        Due.due("count(4) at last", x.count(4), 13);
        Due.due("count(5) at last", x.count(5), 4);
        Due.due("count(6) at last", x.count(6), 0);
        Due.due("count(7) at last", x.count(7), 3);
        Due.due("count(8) at last", x.count(8), 2);
        Due.due("count(10)", x.count(10), Due.BAD);
        Due.due("count(-1)", x.count(-1), Due.BAD);
    }
}
