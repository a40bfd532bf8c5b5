import java.util.List;
import java.util.function.IntUnaryOperator;

/** Holds calls against the edges that the document names, and looks whether refused ones change anything. */
final class Edges {
    /** One call on an office. */
    interface Call {
        int on(GalleyConvoy x);
    }

    /** One call on an office, with a number that is to be tried. */
    interface CallWith {
        int on(GalleyConvoy x, int v);
    }

    /** Makes a new office by the same calls each time. */
    interface Office {
        GalleyConvoy make();
    }

    private Edges() {
    }

    static void passes(String what, Office office, Call call, int want) {
        Due.due(what, call.on(office.make()), want);
    }

    /** The answer is due, and all is as in an office without this call. */
    static void refused(String what, Office office, Call call, int want) {
        GalleyConvoy with = office.make();
        Due.due(what, call.on(with), want);
        alike(what + " changes nothing", with, office.make());
    }

    static void alike(String what, GalleyConvoy with, GalleyConvoy without) {
        List<String> got = Shown.of(with);
        List<String> want = Shown.of(without);
        String first = "";
        for (int i = 0; i < Math.min(got.size(), want.size()) && first.isEmpty(); i++) {
            first = got.get(i).equals(want.get(i)) ? "" : " (" + got.get(i) + " for " + want.get(i) + ")";
        }
        Due.due(what + first, got.equals(want) ? 1 : 0, 1);
    }

    /** Least and most are let pass; the next ones beyond them and the wildest are refused. */
    static void within(String what, Office office, CallWith call, int[] leastAndMost, IntUnaryOperator want, int bad) {
        int least = leastAndMost[0];
        int most = leastAndMost[1];
        for (int v : new int[] {least, most}) {
            passes(what + ": " + v, office, x -> call.on(x, v), want.applyAsInt(v));
        }
        beyond(what, office, call, least, most, bad);
    }

    static void beyond(String what, Office office, CallWith call, int least, int most, int bad) {
        for (int v : new int[] {least - 1, most + 1, Integer.MIN_VALUE, Integer.MAX_VALUE}) {
            refused(what + ": " + v, office, x -> call.on(x, v), bad);
        }
    }

    static int[] from(int least, int most) {
        return new int[] {least, most};
    }

    /**
     * Day 3; ports 0, 1, 2. Galley 0 (let to 0, 10 of its parts are 1's) is AT SEA with bales 0 and 1, galley 1
     * IN PORT 0 since today, galley 2 HOME with a bid of 40 by person 1. Bales 2 and 3 lie on the quays of ports 1
     * and 0. Three votes; the tape has a good text of 7 bytes.
     */
    static GalleyConvoy busy() {
        GalleyConvoy x = Due.line(2, 3);
        x.purse(0, 1000);
        x.purse(1, 500);
        x.galley(20, 500, 5, 100);
        x.galley(30, 600, 3, 200);
        x.galley(9, 90, 9, 9);
        x.bid(0, 0, 300);
        x.let(0);
        x.part(0, 0, 1, 10);
        x.bid(2, 1, 40);
        x.wind(3, -2);
        x.wind(5, 4);
        x.bale(2, 1, Due.size(0, 3, 100), Due.price(50, 24));
        x.bale(3, 2, Due.size(1, 1, 90), Due.price(20, 10));
        x.bale(4, 102, Due.size(2, 2, 30), Due.price(70, 7));
        Due.vote(x, 0, "2");
        Due.vote(x, 1, "weight+1");
        Due.vote(x, 2, "late<2");
        x.start(0);
        x.day(3);
        x.start(1);
        x.bale(5, 2, Due.size(0, 1, 5), Due.price(9, 3));
        Due.put(x, "day*2+1");
        return x;
    }

    /** Galley 0 is DONE. */
    static GalleyConvoy ended() {
        GalleyConvoy x = Due.line(1);
        x.galley(9, 99, 9, 9);
        x.galley(9, 99, 9, 9);
        Due.bale(x, 0, 0, 1, 5);
        x.start(0);
        x.day(4);
        return x;
    }

    static GalleyConvoy twelvePorts() {
        return Due.line(9, 9, 9, 9, 9, 9, 9, 9, 9, 9, 9);
    }

    static GalleyConvoy eightGalleys() {
        GalleyConvoy x = Due.line(1);
        for (int i = 0; i < 8; i++) {
            x.galley(9, 99, 1 + i, 9);
        }
        return x;
    }

    static GalleyConvoy eightGalleysAndCoins() {
        GalleyConvoy x = eightGalleys();
        for (int who = 0; who < 10; who++) {
            x.purse(who, 50);
        }
        return x;
    }

    static GalleyConvoy bales(int n) {
        GalleyConvoy x = Due.line(1, 1);
        x.galley(9, 99, 9, 9);
        for (int i = 0; i < n; i++) {
            Due.bale(x, i % 10, 0, 1, 1 + i);
        }
        return x;
    }

    static GalleyConvoy votes(int n) {
        GalleyConvoy x = Due.line(1);
        x.galley(9, 99, 1, 9);
        x.start(0);
        for (int i = 0; i < n; i++) {
            Due.vote(x, 0, "" + i);
        }
        return x;
    }

    /** A tape with n bytes that are a good text: blanks, and a 7 behind them. */
    static GalleyConvoy bytes(int n) {
        GalleyConvoy x = Due.line(1);
        x.galley(9, 99, 1, 9);
        x.start(0);
        Due.put(x, " ".repeat(n - 1) + "7");
        return x;
    }
}
