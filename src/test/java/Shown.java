import java.util.ArrayList;
import java.util.List;

/**
 * All that the questions show of an office, and then what later calls make of it: two offices that
 * are shown alike have had the same calls that change something. Keeps within the document's 512 calls.
 */
final class Shown {
    private final GalleyConvoy x;
    private final List<String> rows = new ArrayList<>();
    private final int ports;
    private final int galleys;
    private final int bales;

    private Shown(GalleyConvoy x) {
        this.x = x;
        ports = x.count(0);
        galleys = x.count(1);
        bales = x.count(2);
    }

    static List<String> of(GalleyConvoy x) {
        Shown shown = new Shown(x);
        shown.questions();
        shown.bids();
        shown.tape();
        shown.nextDay();
        shown.row("day(30)", x.day(30));
        shown.countsCoinsAndGalleys();
        shown.newOnes();
        shown.winds();
        return shown.rows;
    }

    private void row(String call, int answer) {
        rows.add(call + " = " + answer);
    }

    private void questions() {
        countsCoinsAndGalleys();
        for (int g = 0; g < galleys; g++) {
            row("ship(" + g + ", 8)", x.ship(g, 8));
            row("ship(" + g + ", 9)", x.ship(g, 9));
            for (int who = -1; who < 10; who++) {
                row("parts(" + g + ", " + who + ")", x.parts(g, who));
            }
        }
        for (int b = 0; b < bales; b++) {
            // Of many bales those at both ends stand for all.
            if (b < 3 || b >= bales - 2) {
                for (int what = 0; what < 12; what++) {
                    row("about(" + b + ", " + what + ")", x.about(b, what));
                }
            }
        }
        for (int kind = 0; kind < 3; kind++) {
            for (int port = 0; port < Math.min(3, ports); port++) {
                row("known(" + kind + ", " + port + ")", x.known(kind, port));
            }
        }
        says();
    }

    private void countsCoinsAndGalleys() {
        for (int what = 0; what < 10; what++) {
            row("count(" + what + ")", x.count(what));
        }
        for (int who = 0; who < 12; who++) {
            row("coins(" + who + ")", x.coins(who));
        }
        for (int g = 0; g < galleys; g++) {
            for (int what = 0; what < 8; what++) {
                row("ship(" + g + ", " + what + ")", x.ship(g, what));
            }
        }
    }

    private void says() {
        for (int g = 0; g < Math.min(3, galleys); g++) {
            row("says(0, " + g + ", 0)", x.says(0, g, 0));
            row("says(1, " + g + ", 0)", x.says(1, g, 0));
            int other = g == 0 ? 1 : 0;
            row("says(2, " + g + ", " + other + ")", x.says(2, g, other));
        }
    }

    /** Who made the highest bid is shown by letting alone. */
    private void bids() {
        for (int g = 0; g < galleys; g++) {
            row("let(" + g + ")", x.let(g));
        }
    }

    /** Which bytes the tape has is shown by the vote that they make. */
    private void tape() {
        row("vote(0)", x.vote(0));
        says();
    }

    private void nextDay() {
        row("day(1)", x.day(1));
        for (int g = 0; g < galleys; g++) {
            row("WAY of " + g, x.ship(g, 3));
            row("WEIGHT aboard of " + g, x.ship(g, 6));
        }
    }

    private void newOnes() {
        for (int g = 0; g < galleys; g++) {
            row("start(" + g + ")", x.start(g));
        }
        row("port(1)", x.port(1));
        row("galley(1, 1, 1, 1)", x.galley(1, 1, 1, 1));
        row("bale(0, 1, 1001, 1000)", x.bale(0, 1, 1001, 1000));
        row("feed(1, 49)", x.feed(1, 49));
    }

    private void winds() {
        for (int day = 0; day < 30; day++) {
            row("wind(" + day + ", 0)", x.wind(day, 0));
        }
    }
}
