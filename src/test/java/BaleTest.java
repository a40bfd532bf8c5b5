/** Promises 10 and 11: bales and what is told about them. */
public final class BaleTest {
    public static void main(String[] args) {
        badBales();
        aboutABale();
        statesOfABale();
        threeHundred();
        Due.end();
    }

    private static void badBales() {
        GalleyConvoy x = new GalleyConvoy();
        int size = Due.size(0, 1, 1);
        int price = Due.price(1, 0);
        Due.due("no ports", x.bale(0, 1, size, price), Due.BAD);
        x.port(0);
        x.port(1);
        x.port(1);
        int[] badPorts = {0, 101, 100, 200, 201, 3, 103, 203, -1, -100, -99, 99, 1000001, Integer.MIN_VALUE};
        for (int ports : badPorts) {
            Due.due("ports " + ports, x.bale(0, ports, size, price), Due.BAD);
        }
        int[] badSizes = {0, 1, 1000, 100001, 3001001, -1, -1001, 999999, 2100001, Integer.MAX_VALUE,
            Integer.MIN_VALUE};
        for (int s : badSizes) {
            Due.due("size " + s, x.bale(0, 1, s, price), Due.BAD);
        }
        int[] badPrices = {0, 999, -1, -1000, 10000000, Integer.MAX_VALUE, Integer.MIN_VALUE};
        for (int p : badPrices) {
            Due.due("price " + p, x.bale(0, 1, size, p), Due.BAD);
        }
        Due.due("owner 10", x.bale(10, 1, size, price), Due.BAD);
        Due.due("owner -1", x.bale(-1, 1, size, price), Due.BAD);
        Due.due("none was made", x.count(2), 0);
        Due.due("least", x.bale(0, 1, size, price), 0);
        Due.due("greatest", x.bale(9, 102, Due.size(2, 99, 999), Due.price(9999, 999)), 1);
        Due.due("from 0 to 2", x.bale(9, 2, size, price), 2);
    }

    private static void aboutABale() {
        GalleyConvoy x = Due.line(1, 1, 1);
        x.day(3);
        x.bale(7, 103, Due.size(2, 45, 678), Due.price(1234, 56));
        int[] told = {7, 1, 3, 2, 45, 678, 1234, 56, 3, 0, -1, 3};
        x.day(1);
        for (int what = 0; what < told.length; what++) {
            Due.due("about(0, " + what + ")", x.about(0, what), told[what]);
        }
        Due.due("about(0, 12)", x.about(0, 12), Due.BAD);
        Due.due("about(0, -1)", x.about(0, -1), Due.BAD);
        Due.due("about(1, 0)", x.about(1, 0), Due.BAD);
        Due.due("about(-1, 0)", x.about(-1, 0), Due.BAD);
    }

    private static void statesOfABale() {
        GalleyConvoy x = Due.line(1, 1);
        x.galley(9, 99, 5, 1);
        x.galley(9, 99, 5, 1);
        Due.bale(x, 0, 0, 1, 5);
        Due.bale(x, 0, 0, 2, 9);
        x.day(1);
        x.start(1);
        x.day(1);
        Due.due("ABOARD", x.about(0, 9), 1);
        Due.due("the GALLEY", x.about(0, 10), 1);
        Due.due("since", x.about(0, 11), 2);
        Due.due("made", x.about(0, 8), 0);
        x.day(1);
        x.toss(1, 1);
        Due.due("THROWN", x.about(1, 9), 3);
        Due.due("its GALLEY stays told", x.about(1, 10), 1);
        Due.due("since", x.about(1, 11), 3);
        x.day(1);
        Due.due("GIVEN OUT", x.about(0, 9), 2);
        Due.due("its GALLEY stays told", x.about(0, 10), 1);
        Due.due("since", x.about(0, 11), 4);
    }

    private static void threeHundred() {
        GalleyConvoy x = Due.line(1);
        for (int i = 0; i < 300; i++) {
            Due.due("bale " + i, Due.bale(x, i % 10, 0, 1, 1), i);
        }
        Due.due("bale 300", Due.bale(x, 0, 0, 1, 1), Due.FULL);
        Due.due("bale 300, bad", Due.bale(x, 0, 0, 2, 1), Due.BAD);
        Due.due("count(2)", x.count(2), 300);
        Due.due("about(299, 0)", x.about(299, 0), 9);
        Due.due("about(300, 0)", x.about(300, 0), Due.BAD);
    }
}
