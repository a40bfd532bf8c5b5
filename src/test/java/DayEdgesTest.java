import java.util.Arrays;

/** Terms, parts 1, 3 and 4: every edge that the document names for days, winds, stays, waits, lading, freights, throwing. */
public final class DayEdgesTest {
    private static final int LIGHT = 0, HEAVY = 1, COIN = 2;
    private static final int HOME = 0, IN_PORT = 1, AT_SEA = 2, DONE = 3;

    public static void main(String[] args) {
        wayIsMoreBySpeedAndWindAtLeastBy1();
        windOfTheDayModulo30();
        comesAtTenTimesTheLeg();
        notOnTheDayWhenItCame();
        staysAsManyDaysAsStaySays();
        staysThirtyDaysAtMost();
        staysAtTheLastPortToo();
        waitsWhileWaitIsAbove0();
        waitsOnlyForThoseOnTheirWayThere();
        waitsAtTheLastPortToo();
        galleysGoByNumbers();
        doneForEver();
        allTwelvePorts();
        ladesOnlyWhatIsAbove0();
        ladesTheGreatestFirstOfSeveralTheLeastNumber();
        ladesAsTheGalleyIsAheadOfTheLading();
        ladesWithItsOwnNames();
        ladesWithinRoom();
        ladesWithinBears();
        ladesHeavyOnesUpToHalf();
        heavyOnesThatAreGoneMakeRoom();
        ladesOnlyFromTheQuayOfThatPort();
        givesOutOnlyWhatGoesThere();
        freightsByParts();
        freightsOfAllSizes();
        freightOfAnOwnerWithParts();
        throwsTillTheyWeighAsMuch();
        throwsTheHeaviestOfSeveralTheLeastNumber();
        lossIsSharedTheRestAway();
        lossOfTheGreatestWorths();
        thrownOnesComeBackNowhere();
        Due.end();
    }

    // "its WAY is more by SPEED and the WIND of the DAY, at least by 1"
    private static void wayIsMoreBySpeedAndWindAtLeastBy1() {
        for (int speed = 1; speed <= 9; speed++) {
            for (int wind = -9; wind <= 9; wind++) {
                GalleyConvoy x = Due.line(9);
                x.galley(9, 99, speed, 9);
                x.wind(2, wind);
                x.start(0);
                x.day(1);
                Due.due("WAY on the day it left", x.ship(0, 3), 0);
                x.day(1);
                Due.due("WAY by " + speed + " and " + wind, x.ship(0, 3), Math.max(1, speed + wind));
            }
        }
    }

    // "WIND of each of 30 days, told by DAY modulo 30"
    private static void windOfTheDayModulo30() {
        for (int day : new int[] {2, 29, 30, 31, 59, 60, 61, 1979, 1980, 1999, 2000}) {
            GalleyConvoy x = Due.line(9);
            x.galley(9, 99, 1, 9);
            for (int d = 0; d < 30; d++) {
                x.wind(d, d == day % 30 ? 5 : -9);
            }
            daysGoBy(x, day - 2);
            x.start(0);
            x.day(1);
            x.day(1);
            Due.due("DAY", x.count(4), day);
            Due.due("WAY on day " + day, x.ship(0, 3), 6);
        }
    }

    private static void daysGoBy(GalleyConvoy x, int n) {
        for (int left = n; left > 0; left -= 100) {
            x.day(Math.min(100, left));
        }
    }

    // "if it is 10 times the LEG then, or more, it comes to the PORT"
    private static void comesAtTenTimesTheLeg() {
        for (int leg = 1; leg <= 9; leg++) {
            GalleyConvoy x = Due.line(leg, 1);
            x.galley(9, 99, 1, 9);
            x.start(0);
            x.day(10 * leg);
            Due.due("leg " + leg + ": one too few", x.ship(0, 3), 10 * leg - 1);
            Due.due("AT SEA", x.ship(0, 0), AT_SEA);
            x.day(1);
            Due.due("leg " + leg + ": as many", x.ship(0, 0), IN_PORT);
            Due.due("WAY is 0 then", x.ship(0, 3), 0);
            Due.due("the DAY when it came", x.ship(0, 2), 10 * leg + 1);
        }
        GalleyConvoy y = Due.line(1, 1);
        y.galley(9, 99, 9, 9);
        y.start(0);
        y.day(2);
        Due.due("9 of 10", y.ship(0, 3), 9);
        y.day(1);
        Due.due("18 of 10: what is more is away", y.ship(0, 0) * 100 + y.ship(0, 3), 100);
        y.day(2);
        Due.due("the next leg begins at 0", y.ship(0, 0) * 100 + y.ship(0, 3), 209);
    }

    // "IN PORT (and not come this DAY)"
    private static void notOnTheDayWhenItCame() {
        GalleyConvoy x = Due.line(1, 1);
        Due.vote(x, 0, "0");
        x.galley(9, 99, 9, 9);
        x.day(5);
        x.start(0);
        Due.due("IN PORT on the day of the start", x.ship(0, 0), IN_PORT);
        x.day(1);
        Due.due("AT SEA a day later", x.ship(0, 0), AT_SEA);
        x.day(2);
        Due.due("IN PORT on the day when it came", x.ship(0, 0) * 100 + x.ship(0, 2), 108);
        x.day(1);
        Due.due("AT SEA a day later", x.ship(0, 0) * 100 + x.ship(0, 2), 209);
        x.day(2);
        Due.due("IN PORT 2", x.ship(0, 0), IN_PORT);
        x.day(1);
        Due.due("DONE a day later", x.ship(0, 0), DONE);
    }

    /** On which day a galley leaves port 0, where it is from day 0 on. */
    private static int leavesOn(String stay) {
        GalleyConvoy x = Due.line(9);
        Due.vote(x, 0, stay);
        x.galley(9, 99, 1, 9);
        x.start(0);
        for (int day = 1; day <= 40; day++) {
            x.day(1);
            if (x.ship(0, 0) == AT_SEA) {
                Due.due("the DAY when it left", x.ship(0, 2), day);
                return day;
            }
        }
        return -1;
    }

    // "if it stayed as many days as STAY says (less than 0 is 0 ..)"
    private static void staysAsManyDaysAsStaySays() {
        for (int days = 1; days <= 30; days++) {
            Due.due("STAY " + days, leavesOn("" + days), days);
        }
        Due.due("STAY 0", leavesOn("0"), 1);
        Due.due("STAY -1", leavesOn("-1"), 1);
        Due.due("STAY -30", leavesOn("-30"), 1);
        Due.due("the least STAY", leavesOn("-32768*65535-32768"), 1);
        Due.due("a STAY that falls", leavesOn("20-day"), 10);
        Due.due("a STAY that ends", leavesOn("(day<7)*30"), 7);
        Due.due("one day too few, always", leavesOn("stayed+1"), 30);
        Due.due("as many, always", leavesOn("stayed"), 1);
    }

    // "more than 30 is 30"
    private static void staysThirtyDaysAtMost() {
        Due.due("STAY 31", leavesOn("31"), 30);
        Due.due("STAY 99999", leavesOn("99999"), 30);
        Due.due("the greatest STAY", leavesOn("32768*65535+32767"), 30);
        Due.due("one that wraps is below 0", leavesOn("32768*65535+32768"), 1);
    }

    private static void staysAtTheLastPortToo() {
        GalleyConvoy x = Due.line(1);
        Due.vote(x, 0, "port*3");
        x.galley(9, 99, 9, 9);
        x.start(0);
        x.day(3);
        Due.due("come on day 3", x.ship(0, 0) * 100 + x.ship(0, 2), 103);
        x.day(2);
        Due.due("stayed 2 days", x.ship(0, 0), IN_PORT);
        x.day(1);
        Due.due("stayed 3 days", x.ship(0, 0), DONE);
    }

    /** Galley 0 is IN PORT 1 from day 3 on, galley 1 on its way there till day 11: whether 0 left on day 4. */
    private static int leftInSpiteOf(String wait) {
        GalleyConvoy x = Due.line(1, 9);
        Due.vote(x, 2, wait);
        x.galley(9, 99, 9, 9);
        x.galley(9, 99, 1, 9);
        x.start(0);
        x.start(1);
        x.day(3);
        Due.due("0 is IN PORT, 1 AT SEA", x.ship(0, 0) * 10 + x.ship(1, 0), 12);
        x.day(1);
        return x.ship(0, 0) == AT_SEA ? 1 : 0;
    }

    // "there is no other GALLEY AT SEA, on its way to that PORT, for which WAIT is above 0"
    private static void waitsWhileWaitIsAbove0() {
        Due.due("WAIT 1", leftInSpiteOf("1"), 0);
        Due.due("WAIT 0", leftInSpiteOf("0"), 1);
        Due.due("WAIT -1", leftInSpiteOf("-1"), 1);
        Due.due("the greatest WAIT", leftInSpiteOf("32768*65535+32767"), 0);
        Due.due("the least WAIT", leftInSpiteOf("-32768*65535-32768"), 1);
        Due.due("WAIT for 1", leftInSpiteOf("ship=1"), 0);
        Due.due("WAIT for another", leftInSpiteOf("ship=0"), 1);
        Due.due("late is 1", leftInSpiteOf("late=1"), 0);
        Due.due("late is not below 1", leftInSpiteOf("late<1"), 1);
        GalleyConvoy x = Due.line(1, 9);
        Due.vote(x, 2, "late<5");
        x.galley(9, 99, 9, 9);
        x.galley(9, 99, 1, 9);
        x.start(0);
        x.start(1);
        x.day(7);
        Due.due("late is 4", x.ship(0, 0), IN_PORT);
        x.day(1);
        Due.due("late is 5", x.ship(0, 0), AT_SEA);
    }

    private static void waitsOnlyForThoseOnTheirWayThere() {
        GalleyConvoy x = Due.line(1, 9, 1);
        Due.vote(x, 2, "1");
        for (int i = 0; i < 4; i++) {
            x.galley(9, 99, 9, 9);
        }
        x.start(0);
        x.day(1);
        Due.due("others are HOME", x.ship(0, 0), AT_SEA);
        x.start(1);
        x.start(2);
        x.day(1);
        Due.due("another one is AT SEA, away from there", x.ship(1, 0), AT_SEA);
        Due.due("another one is IN PORT there", x.ship(2, 0), AT_SEA);
        x.day(1);
        Due.due("0 has come", x.ship(0, 0) * 10 + x.ship(0, 1), 11);
        x.day(1);
        Due.due("0 waits for those that come behind its turn", x.ship(0, 0), IN_PORT);
        Due.due("they have come", x.ship(1, 0) * 10 + x.ship(2, 0), 11);
        x.day(1);
        Due.due("all leave", x.ship(0, 0) * 100 + x.ship(1, 0) * 10 + x.ship(2, 0), 222);
        x.day(50);
        Due.due("DONE", x.ship(0, 0) * 100 + x.ship(1, 0) * 10 + x.ship(2, 0), 333);
        x.start(3);
        x.day(50);
        Due.due("nobody waits for those that are DONE", x.ship(3, 0), DONE);
    }

    private static void waitsAtTheLastPortToo() {
        GalleyConvoy x = Due.line(1);
        Due.vote(x, 2, "1");
        x.galley(9, 99, 9, 9);
        x.galley(9, 99, 1, 9);
        x.start(0);
        x.start(1);
        x.day(10);
        Due.due("0 is IN PORT for 7 days", x.ship(0, 0) * 100 + x.ship(0, 2), 103);
        Due.due("1 is AT SEA", x.ship(1, 3), 9);
        x.day(1);
        Due.due("1 comes", x.ship(0, 0) * 10 + x.ship(1, 0), 11);
        x.day(1);
        Due.due("both are DONE", x.ship(0, 0) * 10 + x.ship(1, 0), 33);
    }

    // "then for each GALLEY, by numbers": what an earlier one did on this day is seen by a later one.
    private static void galleysGoByNumbers() {
        for (int slow = 0; slow <= 1; slow++) {
            GalleyConvoy x = Due.line(1, 9);
            Due.vote(x, 2, "1");
            x.galley(9, 99, slow == 0 ? 1 : 9, 9);
            x.galley(9, 99, slow == 1 ? 1 : 9, 9);
            x.start(0);
            x.start(1);
            x.day(10);
            Due.due("the fast one waits for it", x.ship(1 - slow, 0) * 10 + x.ship(slow, 0), 12);
            x.day(1);
            Due.due("the slow one has come", x.ship(slow, 0) * 100 + x.ship(slow, 2), 111);
            Due.due("the fast one leaves behind it only", x.ship(1 - slow, 0), slow == 0 ? AT_SEA : IN_PORT);
        }
        GalleyConvoy y = Due.line(9);
        Due.vote(y, 0, "(here<3)*30");
        for (int i = 0; i < 4; i++) {
            y.galley(9, 99, 1, 9);
            y.start(i);
        }
        y.day(1);
        Due.due("4 here, 3 here, then 2", y.ship(0, 0) * 1000 + y.ship(1, 0) * 100 + y.ship(2, 0) * 10 + y.ship(3, 0),
                2211);
    }

    // "at the last PORT it is DONE instead"
    private static void doneForEver() {
        GalleyConvoy x = Due.line(1);
        x.galley(9, 99, 9, 9);
        x.start(0);
        x.day(4);
        for (int i = 0; i < 3; i++) {
            int[] done = {DONE, 1, 3, 0, 0, 0, 0, 0, 0, 0};
            for (int what = 0; what < 10; what++) {
                Due.due("DONE: ship(0, " + what + ")", x.ship(0, what), done[what]);
            }
            x.day(100);
        }
    }

    private static void allTwelvePorts() {
        GalleyConvoy x = Edges.twelvePorts();
        x.galley(9, 99, 9, 9);
        x.bale(3, 11, Due.size(LIGHT, 1, 1), Due.price(1, 7));
        x.start(0);
        for (int port = 1; port <= 11; port++) {
            x.day(1);
            Due.due("on its way to " + port, x.ship(0, 0) * 100 + x.ship(0, 1), 200 + port);
            x.day(9);
            Due.due("81 of 90", x.ship(0, 3), 81);
            x.day(1);
            Due.due("IN PORT " + port, x.ship(0, 0) * 100 + x.ship(0, 1), 100 + port);
            Due.due("the bale", x.about(0, 9), port == 11 ? 2 : 1);
        }
        x.day(1);
        Due.due("DONE at 11", x.ship(0, 0) * 100 + x.ship(0, 1), 311);
        Due.due("its freight", x.ship(0, 7), 7);
    }

    private static void state(GalleyConvoy x, String what, int... wanted) {
        for (int b = 0; b < wanted.length; b++) {
            Due.due(what + ": state of bale " + b, x.about(b, 9), wanted[b]);
        }
    }

    // "those whose LADE is above 0"
    private static void ladesOnlyWhatIsAbove0() {
        GalleyConvoy x = Due.line(1);
        Due.vote(x, 1, "weight-3");
        x.galley(99, 999, 9, 9);
        for (int weight : new int[] {1, 2, 3, 4, 5}) {
            Due.bale(x, 0, 0, 1, weight);
        }
        x.start(0);
        x.day(1);
        state(x, "LADE -2 to 2", 0, 0, 0, 1, 1);
        GalleyConvoy none = Due.line(1);
        Due.vote(none, 1, "0");
        none.galley(99, 999, 9, 9);
        Due.bale(none, 0, 0, 1, 1);
        none.start(0);
        none.day(1);
        Due.due("it leaves without any", none.ship(0, 0) * 10 + none.ship(0, 4), 20);
    }

    // "the greatest LADE first, of several the least number"
    private static void ladesTheGreatestFirstOfSeveralTheLeastNumber() {
        GalleyConvoy x = Due.line(1);
        Due.vote(x, 1, "freight");
        x.galley(4, 999, 9, 9);
        for (int freight : new int[] {5, 7, 6, 7, 5, 8, 5}) {
            x.bale(0, 1, Due.size(LIGHT, 1, 1), Due.price(1, freight));
        }
        x.start(0);
        x.day(1);
        // 8, the two 7 and the 6 have room.
        state(x, "room for four", 0, 1, 1, 1, 0, 1, 0);
        GalleyConvoy y = Due.line(1);
        Due.vote(y, 1, "freight");
        y.galley(5, 999, 9, 9);
        for (int freight : new int[] {5, 7, 6, 7, 5, 8, 5}) {
            y.bale(0, 1, Due.size(LIGHT, 1, 1), Due.price(1, freight));
        }
        y.start(0);
        y.day(1);
        state(y, "room for five", 1, 1, 1, 1, 0, 1, 0);
        GalleyConvoy z = Due.line(1);
        Due.vote(z, 1, "(kind=0)*(32768*65535+32767)+(kind=1)+(kind=2)*(32768*65535+32768)");
        z.galley(1, 999, 9, 9);
        z.bale(0, 1, Due.size(COIN, 1, 1), Due.price(1, 0));
        z.bale(0, 1, Due.size(HEAVY, 1, 1), Due.price(1, 0));
        z.bale(0, 1, Due.size(LIGHT, 1, 1), Due.price(1, 0));
        z.start(0);
        z.day(1);
        state(z, "the greatest int is ahead of 1, the least is below 0", 0, 0, 1);
    }

    // "worked out for each as the GALLEY is ahead of the lading"
    private static void ladesAsTheGalleyIsAheadOfTheLading() {
        GalleyConvoy x = Due.line(1, 1);
        Due.vote(x, 1, "(full=port*7)*(here=1)*(ship=0)");
        x.galley(9, 999, 9, 9);
        Due.bale(x, 0, 0, 2, 3);
        Due.bale(x, 0, 0, 2, 4);
        Due.bale(x, 0, 1, 2, 5);
        Due.bale(x, 0, 1, 2, 6);
        x.start(0);
        x.day(1);
        Due.due("both of port 0", x.ship(0, 6), 7);
        x.day(3);
        Due.due("both of port 1", x.ship(0, 6), 18);
    }

    /** A WAIT that is asked on the same day, of another galley, is no part of what LADE sees. */
    private static void ladesWithItsOwnNames() {
        GalleyConvoy x = Due.line(1, 1);
        Due.vote(x, 1, "ship=0 and late=0");
        Due.vote(x, 2, "0");
        x.galley(9, 999, 9, 9);
        x.galley(9, 999, 1, 9);
        Due.bale(x, 0, 1, 2, 5);
        x.start(0);
        x.start(1);
        x.day(4);
        Due.due("0 leaves port 1, 1 is on its way there", x.ship(0, 0) * 100 + x.ship(1, 0) * 10 + x.ship(1, 1), 221);
        state(x, "laded by 0", 1);
    }

    private static GalleyConvoy laded(int room, int bears, int... sizes) {
        GalleyConvoy x = Due.line(1);
        x.galley(room, bears, 9, 9);
        for (int size : sizes) {
            x.bale(0, 1, size, Due.price(1, 0));
        }
        x.start(0);
        x.day(1);
        return x;
    }

    // "each comes ABOARD if ROOM and BEARS let it (all aboard together)"
    private static void ladesWithinRoom() {
        state(laded(1, 99, Due.size(LIGHT, 1, 1)), "1 in 1", 1);
        state(laded(1, 99, Due.size(LIGHT, 2, 1)), "2 in 1", 0);
        state(laded(99, 99, Due.size(LIGHT, 99, 1)), "99 in 99", 1);
        state(laded(98, 99, Due.size(LIGHT, 99, 1)), "99 in 98", 0);
        state(laded(10, 99, Due.size(LIGHT, 6, 1), Due.size(LIGHT, 4, 1)), "6 and 4 in 10", 1, 1);
        state(laded(10, 99, Due.size(LIGHT, 6, 1), Due.size(LIGHT, 5, 1), Due.size(LIGHT, 4, 1)), "5 stays behind", 1, 0, 1);
        int[] eleven = new int[11];
        Arrays.fill(eleven, Due.size(COIN, 99, 1));
        GalleyConvoy x = laded(999, 9999, eleven);
        Due.due("ten of 99 in 999", x.ship(0, 4) * 1000 + x.ship(0, 5), 10990);
    }

    private static void ladesWithinBears() {
        state(laded(99, 1, Due.size(LIGHT, 1, 1)), "1 on 1", 1);
        state(laded(99, 1, Due.size(LIGHT, 1, 2)), "2 on 1", 0);
        state(laded(99, 999, Due.size(COIN, 1, 999)), "999 on 999", 1);
        state(laded(99, 998, Due.size(COIN, 1, 999)), "999 on 998", 0);
        state(laded(99, 10, Due.size(LIGHT, 1, 6), Due.size(COIN, 1, 4)), "6 and 4 on 10", 1, 1);
        state(laded(99, 10, Due.size(LIGHT, 1, 6), Due.size(COIN, 1, 5), Due.size(LIGHT, 1, 4)), "5 stays behind", 1, 0, 1);
        int[] eleven = new int[11];
        Arrays.fill(eleven, Due.size(COIN, 1, 999));
        eleven[10] = Due.size(COIN, 1, 9);
        GalleyConvoy x = laded(999, 9999, eleven);
        Due.due("ten of 999 and 9 on 9999", x.ship(0, 4) * 10000 + x.ship(0, 6), 119999);
        eleven[10] = Due.size(COIN, 1, 10);
        GalleyConvoy y = laded(999, 9999, eleven);
        Due.due("ten of 999, 10 stays behind", y.ship(0, 4) * 10000 + y.ship(0, 6), 109990);
    }

    // "if it is HEAVY, all HEAVY ones aboard weigh at most half of BEARS (the rest away)"
    private static void ladesHeavyOnesUpToHalf() {
        state(laded(99, 1, Due.size(HEAVY, 1, 1)), "half of 1 is 0", 0);
        state(laded(99, 2, Due.size(HEAVY, 1, 2), Due.size(HEAVY, 1, 1)), "half of 2", 0, 1);
        state(laded(99, 3, Due.size(HEAVY, 1, 2), Due.size(HEAVY, 1, 1)), "half of 3", 0, 1);
        state(laded(99, 4, Due.size(HEAVY, 1, 2)), "half of 4", 1);
        state(laded(99, 100, Due.size(HEAVY, 1, 50)), "50 of 100", 1);
        state(laded(99, 100, Due.size(HEAVY, 1, 51)), "51 of 100", 0);
        state(laded(99, 101, Due.size(HEAVY, 1, 51)), "51 of 101", 0);
        state(laded(99, 102, Due.size(HEAVY, 1, 51)), "51 of 102", 1);
        state(laded(99, 100, Due.size(LIGHT, 1, 51), Due.size(COIN, 1, 49)), "others may be more than half", 1, 1);
        state(laded(99, 100, Due.size(HEAVY, 1, 30), Due.size(HEAVY, 1, 21), Due.size(HEAVY, 1, 20), Due.size(HEAVY, 1, 1),
                Due.size(LIGHT, 1, 50)), "30 and 20, and a LIGHT one", 1, 0, 1, 0, 1);
        state(laded(99, 100, Due.size(LIGHT, 1, 60), Due.size(HEAVY, 1, 41), Due.size(HEAVY, 1, 40)),
                "BEARS holds for HEAVY ones, too", 1, 0, 1);
        state(laded(5, 100, Due.size(LIGHT, 3, 1), Due.size(HEAVY, 3, 1), Due.size(HEAVY, 2, 1)),
                "ROOM holds for HEAVY ones, too", 1, 0, 1);
    }

    private static void heavyOnesThatAreGoneMakeRoom() {
        for (int thrown = 0; thrown <= 1; thrown++) {
            GalleyConvoy x = Due.line(1, 1);
            x.galley(99, 100, 9, 9);
            x.bale(0, thrown == 1 ? 2 : 1, Due.size(HEAVY, 1, 30), Due.price(1, 0));
            x.bale(0, 2, Due.size(HEAVY, 1, 20), Due.price(1, 0));
            x.bale(0, 102, Due.size(HEAVY, 1, 31), Due.price(1, 0));
            x.bale(0, 102, Due.size(HEAVY, 1, 30), Due.price(1, 0));
            x.start(0);
            x.day(1);
            if (thrown == 1) {
                Due.due("30 are thrown", x.toss(0, 30), 1);
            }
            x.day(3);
            state(x, "20 and 30 of 50", thrown == 1 ? 3 : 2, 1, 0, 1);
        }
    }

    // "of all BALES ON A QUAY at that PORT"
    private static void ladesOnlyFromTheQuayOfThatPort() {
        GalleyConvoy x = Due.line(1, 1);
        x.galley(99, 999, 9, 9);
        x.galley(99, 999, 9, 9);
        Due.bale(x, 0, 0, 1, 1);
        Due.bale(x, 0, 0, 2, 2);
        Due.bale(x, 0, 1, 2, 3);
        Due.bale(x, 0, 0, 2, 4);
        x.start(0);
        x.day(1);
        state(x, "from port 0", 1, 1, 0, 1);
        x.toss(0, 4);
        x.start(1);
        x.day(1);
        Due.due("nothing is left for galley 1", x.ship(1, 0) * 10 + x.ship(1, 4), 20);
        Due.due("what is ABOARD 0 stays there", x.about(1, 10), 0);
        x.day(1);
        Due.bale(x, 0, 0, 1, 5);
        x.day(1);
        state(x, "0 has laded in port 1", 2, 1, 1, 3, 0);
        Due.due("aboard 0", x.ship(0, 4), 2);
        x.day(20);
        state(x, "at last", 2, 2, 2, 3, 0);
        Due.due("both are DONE", x.ship(0, 0) * 10 + x.ship(1, 0), 33);
    }

    // "all BALES ABOARD that go there are GIVEN OUT"
    private static void givesOutOnlyWhatGoesThere() {
        GalleyConvoy x = Due.line(1, 1);
        x.galley(2, 999, 9, 9);
        x.galley(9, 999, 1, 9);
        for (int i = 0; i < 4; i++) {
            x.bale(i, i % 2 == 0 ? 1 : 2, Due.size(LIGHT, 1, 1), Due.price(1, 24));
        }
        x.start(0);
        x.start(1);
        x.day(1);
        state(x, "two aboard each", 1, 1, 1, 1);
        Due.due("galleys", x.about(0, 10) * 1000 + x.about(1, 10) * 100 + x.about(2, 10) * 10 + x.about(3, 10), 11);
        x.day(2);
        state(x, "galley 0 has come", 2, 1, 1, 1);
        Due.due("the DAY of its state", x.about(0, 11), 3);
        Due.due("freights of 0", x.ship(0, 7), 24);
        Due.due("freights of 1", x.ship(1, 7), 0);
        x.day(8);
        state(x, "galley 1 has come, 0 is at port 2", 2, 2, 2, 1);
        Due.due("freights of 0", x.ship(0, 7), 48);
        Due.due("freights of 1", x.ship(1, 7), 24);
    }

    /** A galley let to person 0 with some parts given to 1; one bale of person 2 is given out. */
    private static GalleyConvoy freightOf(int freight, int parts) {
        GalleyConvoy x = Due.line(1);
        x.galley(9, 99, 9, 9);
        x.purse(0, 10);
        x.bid(0, 0, 10);
        x.let(0);
        if (parts > 0) {
            x.part(0, 0, 1, parts);
        }
        x.bale(2, 1, Due.size(LIGHT, 1, 1), Due.price(1, freight));
        x.start(0);
        x.day(3);
        return x;
    }

    // "FREIGHT times PARTS divided by 24 (the rest away) .. what is left over goes to THE CHEST"
    private static void freightsByParts() {
        for (int parts = 0; parts <= 24; parts++) {
            GalleyConvoy x = freightOf(101, parts);
            int first = 101 * (24 - parts) / 24;
            int second = 101 * parts / 24;
            Due.due("who has " + (24 - parts), x.coins(0), first);
            Due.due("who has " + parts, x.coins(1), second);
            Due.due("THE CHEST", x.coins(10), 10 + 101 - first - second);
            Due.due("the owner", x.coins(2), -101);
        }
    }

    private static void freightsOfAllSizes() {
        for (int freight : new int[] {0, 1, 23, 24, 25, 47, 48, 998, 999}) {
            GalleyConvoy x = freightOf(freight, 1);
            Due.due("23 parts of " + freight, x.coins(0), freight * 23 / 24);
            Due.due("1 part of " + freight, x.coins(1), freight / 24);
            Due.due("THE CHEST", x.coins(10), 10 + freight - freight * 23 / 24 - freight / 24);
            Due.due("the owner", x.coins(2), -freight);
            Due.due("all FREIGHTS", x.ship(0, 7), freight);
        }
        GalleyConvoy y = Due.line(1);
        y.galley(9, 99, 9, 9);
        y.bale(2, 1, Due.size(LIGHT, 1, 1), Due.price(1, 999));
        y.start(0);
        y.day(3);
        Due.due("all PARTS are the office's", y.coins(10), 999);
    }

    private static void freightOfAnOwnerWithParts() {
        GalleyConvoy x = Due.line(1);
        x.galley(9, 99, 9, 9);
        x.purse(0, 10);
        x.bid(0, 0, 10);
        x.let(0);
        x.part(0, 0, 9, 5);
        x.bale(0, 1, Due.size(LIGHT, 1, 1), Due.price(1, 100));
        x.bale(9, 1, Due.size(LIGHT, 1, 1), Due.price(1, 7));
        x.start(0);
        x.day(3);
        // 100: 79 and 20, 1 left; 7: 5 and 1, 1 left.
        Due.due("person 0", x.coins(0), -100 + 79 + 5);
        Due.due("person 9", x.coins(9), -7 + 20 + 1);
        Due.due("THE CHEST", x.coins(10), 12);
    }

    private static GalleyConvoy atSea(int hull, int... weights) {
        GalleyConvoy x = Due.line(9);
        x.galley(99, 9999, 1, hull);
        for (int weight : weights) {
            Due.bale(x, 0, 0, 1, weight);
        }
        x.start(0);
        x.day(1);
        return x;
    }

    private static void thrown(int weight, int... states) {
        GalleyConvoy x = atSea(5, 10, 30, 20);
        int gone = 0;
        for (int state : states) {
            gone += state == 3 ? 1 : 0;
        }
        Due.due("LOSS of " + weight, x.toss(0, weight), gone);
        state(x, "weight " + weight, states);
        Due.due("BALES ABOARD", x.ship(0, 4), 3 - gone);
    }

    // "are THROWN till they weigh w together, or none is left"
    private static void throwsTillTheyWeighAsMuch() {
        thrown(1, 1, 3, 1);
        thrown(30, 1, 3, 1);
        thrown(31, 1, 3, 3);
        thrown(50, 1, 3, 3);
        thrown(51, 3, 3, 3);
        thrown(60, 3, 3, 3);
        thrown(61, 3, 3, 3);
        thrown(100000, 3, 3, 3);
    }

    // "the heaviest first, of several the least number"
    private static void throwsTheHeaviestOfSeveralTheLeastNumber() {
        GalleyConvoy x = atSea(5, 7, 9, 9, 8, 9);
        x.toss(0, 1);
        state(x, "the first 9", 1, 3, 1, 1, 1);
        x.toss(0, 1);
        state(x, "the second 9", 1, 3, 3, 1, 1);
        x.toss(0, 9);
        state(x, "the third 9", 1, 3, 3, 1, 3);
        x.toss(0, 9);
        state(x, "8 and 7", 3, 3, 3, 3, 3);
        Due.due("none is left", x.toss(0, 1), Due.NOT);
        GalleyConvoy same = atSea(5, 4, 4, 4);
        same.toss(0, 8);
        state(same, "two of three", 3, 3, 1);
    }

    private static void shared(int hull, int worth, int share) {
        GalleyConvoy x = Due.line(9);
        x.galley(9, 99, 1, hull);
        x.bale(3, 1, Due.size(LIGHT, 1, 1), Due.price(worth, 0));
        x.start(0);
        x.day(1);
        Due.due("LOSS", x.toss(0, 1), worth);
        Due.due("owner of " + worth + ", hull " + hull, x.coins(3), worth - share);
        Due.due("THE CHEST", x.coins(10), share - worth);
    }

    // "LOSS times WORTH divided by all WORTHS and the HULL together (the rest away)"
    private static void lossIsSharedTheRestAway() {
        shared(1, 1, 0);
        shared(9999, 1, 0);
        shared(2, 2, 1);
        shared(3, 2, 0);
        shared(1, 2, 1);
        shared(1, 9999, 9998);
        shared(9999, 9999, 4999);
        shared(9998, 9999, 4999);
        GalleyConvoy x = Due.line(9);
        x.galley(9, 999, 1, 10);
        x.bale(0, 1, Due.size(LIGHT, 1, 9), Due.price(30, 0));
        x.bale(1, 1, Due.size(LIGHT, 1, 8), Due.price(20, 0));
        x.bale(0, 1, Due.size(LIGHT, 1, 7), Due.price(7, 0));
        x.bale(9, 1, Due.size(LIGHT, 1, 6), Due.price(1, 0));
        x.start(0);
        x.day(1);
        // All together 68. LOSS 50: 22, 14, 5, 0, and 9 for THE CHEST.
        Due.due("LOSS", x.toss(0, 17), 50);
        Due.due("person 0", x.coins(0), 30 - 22 - 5);
        Due.due("person 1", x.coins(1), 20 - 14);
        Due.due("person 9", x.coins(9), 0);
        Due.due("THE CHEST", x.coins(10), -9);
        Due.due("nothing came from outside", x.coins(11), 0);
    }

    private static void lossOfTheGreatestWorths() {
        GalleyConvoy x = Due.line(9);
        x.galley(999, 9999, 1, 9999);
        for (int i = 0; i < 300; i++) {
            x.bale(i % 2, 1, Due.size(LIGHT, 1, 33), Due.price(9999, 0));
        }
        x.start(0);
        x.day(1);
        Due.due("all are ABOARD", x.ship(0, 6), 9900);
        Due.due("LOSS", x.toss(0, 9900), 300 * 9999);
        // Each pays 2999700 times 9999 divided by 3009699: 9965.
        Due.due("person 0", x.coins(0), 150 * (9999 - 9965));
        Due.due("person 1", x.coins(1), 150 * (9999 - 9965));
        Due.due("THE CHEST", x.coins(10), -300 * (9999 - 9965));
    }

    private static void thrownOnesComeBackNowhere() {
        GalleyConvoy x = Due.line(1, 1);
        x.galley(9, 99, 9, 9);
        x.galley(9, 99, 9, 9);
        x.bale(0, 1, Due.size(LIGHT, 1, 5), Due.price(1, 50));
        x.bale(1, 1, Due.size(LIGHT, 1, 4), Due.price(1, 60));
        x.start(0);
        x.day(1);
        x.toss(0, 5);
        x.start(1);
        x.day(2);
        state(x, "one is given out", 3, 2);
        Due.due("no freight of a thrown one", x.ship(0, 7), 60);
        x.day(30);
        Due.due("nor by another galley", x.ship(1, 7), 0);
        Due.due("the DAY of its state", x.about(0, 11), 1);
        state(x, "at last", 3, 2);
        Due.due("HOME is nobody", x.ship(0, 0) == HOME || x.ship(1, 0) == HOME ? 1 : 0, 0);
    }
}
