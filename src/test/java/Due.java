import java.nio.charset.StandardCharsets;

/** What all tests of the project share: answers that are due, and texts put on the tape. */
final class Due {
    static final int BAD = -1, NOT = -2, FULL = -3;
    static final int BAD_SUM = -2000000000;

    private static int asked = 0;
    private static int wrong = 0;

    private Due() {
    }

    static void due(String call, long got, long want) {
        asked++;
        if (got != want) {
            wrong++;
            System.out.println(call + " answered " + got + ", due is " + want);
        }
    }

    /** Prints the sum of all, and ends with 1 if an answer was wrong. */
    static void end() {
        System.out.println(wrong == 0 ? asked + " answers are as due" : wrong + " answers are not as due");
        if (wrong != 0) {
            System.exit(1);
        }
    }

    static int wrongSoFar() {
        return wrong;
    }

    /** Puts a text on the tape, four bytes a call. */
    static void put(GalleyConvoy x, String text) {
        byte[] bytes = text.getBytes(StandardCharsets.ISO_8859_1);
        for (int i = 0; i < bytes.length; i += 4) {
            int n = Math.min(4, bytes.length - i);
            int v = 0;
            for (int k = n - 1; k >= 0; k--) {
                v = v << 8 | bytes[i + k] & 255;
            }
            x.feed(n, v);
        }
    }

    static int vote(GalleyConvoy x, int kind, String text) {
        put(x, text);
        return x.vote(kind);
    }

    /** A new office with one port for each leg behind port 0. */
    static GalleyConvoy line(int... legs) {
        GalleyConvoy x = new GalleyConvoy();
        x.port(0);
        for (int leg : legs) {
            x.port(leg);
        }
        return x;
    }

    static int size(int kind, int room, int weight) {
        return kind * 1000000 + room * 1000 + weight;
    }

    static int price(int worth, int freight) {
        return worth * 1000 + freight;
    }

    /** A bale of room 1 and a weight, from one port to another. */
    static int bale(GalleyConvoy x, int owner, int from, int to, int weight) {
        return x.bale(owner, 100 * from + to, size(0, 1, weight), price(1, 0));
    }
}
