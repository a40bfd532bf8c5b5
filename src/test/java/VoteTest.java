/** Promises 14 and 15: which vote is in force where, and what it says. */
public final class VoteTest {
    public static void main(String[] args) {
        votesTravelSlowly();
        badQuestions();
        withoutAnyVote();
        namesOfAGalley();
        namesOfABale();
        namesOfAnotherGalley();
        aVoteFarAwayIsNotHeard();
        Due.end();
    }

    private static void votesTravelSlowly() {
        GalleyConvoy x = Due.line(2, 3);
        Due.due("none", x.known(0, 0), Due.NOT);
        Due.vote(x, 0, "1");
        Due.vote(x, 1, "1");
        x.day(1);
        Due.vote(x, 0, "2");
        Due.vote(x, 0, "3");
        Due.due("day 1, port 0", x.known(0, 0), 3);
        Due.due("day 1, port 0, LADE", x.known(1, 0), 1);
        Due.due("day 1, port 0, WAIT", x.known(2, 0), Due.NOT);
        Due.due("day 1, port 1", x.known(0, 1), Due.NOT);
        x.day(1);
        Due.due("day 2, port 1", x.known(0, 1), 0);
        Due.due("day 2, port 2", x.known(0, 2), Due.NOT);
        x.day(1);
        Due.due("day 3, port 1", x.known(0, 1), 3);
        x.day(1);
        Due.due("day 4, port 2", x.known(0, 2), Due.NOT);
        x.day(1);
        Due.due("day 5, port 2", x.known(0, 2), 0);
        Due.due("day 5, port 2, LADE", x.known(1, 2), 1);
        x.day(1);
        Due.due("day 6, port 2", x.known(0, 2), 3);
    }

    private static void badQuestions() {
        GalleyConvoy x = Due.line(1);
        Due.due("known(3, 0)", x.known(3, 0), Due.BAD);
        Due.due("known(-1, 0)", x.known(-1, 0), Due.BAD);
        Due.due("known(0, 2)", x.known(0, 2), Due.BAD);
        Due.due("known(0, -1)", x.known(0, -1), Due.BAD);
        Due.due("no galley", x.says(0, 0, 0), Due.BAD_SUM);
        x.galley(1, 9, 9, 1);
        x.galley(1, 9, 9, 1);
        Due.bale(x, 0, 0, 1, 1);
        Due.due("HOME", x.says(0, 0, 0), Due.BAD_SUM);
        x.start(0);
        Due.due("kind 3", x.says(3, 0, 0), Due.BAD_SUM);
        Due.due("kind -1", x.says(-1, 0, 0), Due.BAD_SUM);
        Due.due("galley -1", x.says(0, -1, 0), Due.BAD_SUM);
        Due.due("galley 2", x.says(0, 2, 0), Due.BAD_SUM);
        Due.due("bale 1", x.says(1, 0, 1), Due.BAD_SUM);
        Due.due("bale -1", x.says(1, 0, -1), Due.BAD_SUM);
        Due.due("the same galley", x.says(2, 0, 0), Due.BAD_SUM);
        Due.due("another galley 2", x.says(2, 0, 2), Due.BAD_SUM);
        Due.due("another galley -1", x.says(2, 0, -1), Due.BAD_SUM);
        Due.due("STAY: which doesn't count", x.says(0, 0, -7), 1);
        x.day(1);
        Due.due("AT SEA", x.says(0, 0, 0), Due.BAD_SUM);
        x.day(9);
        Due.due("it is DONE", x.ship(0, 0), 3);
        Due.due("DONE", x.says(0, 0, 0), Due.BAD_SUM);
    }

    private static void withoutAnyVote() {
        GalleyConvoy x = Due.line(1);
        x.galley(1, 9, 9, 1);
        x.galley(1, 9, 9, 1);
        Due.bale(x, 0, 0, 1, 1);
        x.start(0);
        Due.due("STAY", x.says(0, 0, 0), 1);
        Due.due("LADE", x.says(1, 0, 0), 1);
        Due.due("WAIT", x.says(2, 0, 1), 0);
    }

    /** What a text says at this moment: the vote is told anew, so only for port 0. */
    private static int said(GalleyConvoy x, int kind, int galley, int which, String text) {
        Due.vote(x, kind, text);
        return x.says(kind, galley, which);
    }

    /** Galleys 0, 1 and 2: 2 has left port 0, 0 and 1 are in it since days 3 and 5; it is day 9. */
    private static GalleyConvoy threeGalleys() {
        GalleyConvoy x = Due.line(9, 9);
        for (int i = 0; i < 3; i++) {
            x.galley(99, 999, 1, 1);
        }
        x.start(2);
        x.day(3);
        Due.vote(x, 0, "30");
        x.start(0);
        x.day(2);
        x.start(1);
        x.bale(4, 1, Due.size(2, 12, 345), Due.price(678, 90));
        x.day(4);
        return x;
    }

    private static void namesOfAGalley() {
        GalleyConvoy x = threeGalleys();
        Due.due("port", said(x, 0, 1, 0, "port"), 0);
        Due.due("day", said(x, 0, 1, 0, "day"), 9);
        Due.due("ship", said(x, 0, 1, 0, "ship"), 1);
        Due.due("here", said(x, 0, 1, 0, "here"), 2);
        Due.due("stayed of 1", said(x, 0, 1, 0, "stayed"), 4);
        Due.due("stayed of 0", x.says(0, 0, 0), 6);
        Due.due("full", said(x, 0, 1, 0, "full"), 0);
        Due.due("not so for STAY",
                said(x, 0, 1, 0, "late+kind+room+weight+worth+freight+waits"), 0);
        Due.due("not clamped", said(x, 0, 1, 0, "0-99"), -99);
    }

    private static void namesOfABale() {
        GalleyConvoy x = threeGalleys();
        Due.due("kind", said(x, 1, 0, 0, "kind"), 2);
        Due.due("room", said(x, 1, 0, 0, "room"), 12);
        Due.due("weight", said(x, 1, 0, 0, "weight"), 345);
        Due.due("worth", said(x, 1, 0, 0, "worth"), 678);
        Due.due("freight", said(x, 1, 0, 0, "freight"), 90);
        Due.due("waits", said(x, 1, 0, 0, "waits"), 4);
        Due.due("late is not so for LADE", said(x, 1, 0, 0, "late"), 0);
        Due.due("a galley's names for LADE",
                said(x, 1, 0, 0, "port+10*ship+100*here+1000*stayed+10000*full+99999*day"), 899991 + 6200);
    }

    private static void namesOfAnotherGalley() {
        GalleyConvoy x = threeGalleys();
        Due.due("late is of this one", said(x, 2, 0, 2, "late"), 6);
        Due.due("stayed", said(x, 2, 0, 2, "stayed"), 6);
        Due.due("ship is the other one", said(x, 2, 0, 2, "ship"), 2);
        Due.due("the other may be in port, too", x.says(2, 0, 1), 1);
        Due.due("a bale's names are not so for WAIT",
                said(x, 2, 0, 2, "kind+room+weight+worth+freight+waits"), 0);
        Due.due("here, day, port for WAIT", said(x, 2, 1, 2, "here+10*day+1000*port"), 92);
    }

    private static void aVoteFarAwayIsNotHeard() {
        GalleyConvoy x = Due.line(2, 1);
        x.galley(9, 999, 9, 1);
        Due.bale(x, 0, 0, 2, 7);
        Due.bale(x, 0, 1, 2, 1);
        x.start(0);
        Due.vote(x, 0, "1+30*port");
        x.day(1);
        Due.vote(x, 1, "full+port*100");
        x.day(1);
        Due.due("AT SEA", x.ship(0, 0), 2);
        x.day(2);
        Due.due("come on day 4", x.ship(0, 2), 4);
        Due.due("the vote of day 1 is heard", x.known(1, 1), 1);
        Due.due("and says", x.says(1, 0, 1), 107);
        Due.vote(x, 1, "55");
        Due.due("that of day 4 not yet", x.says(1, 0, 1), 107);
        x.day(1);
        Due.due("on day 5 not yet", x.says(1, 0, 1), 107);
        x.day(1);
        Due.due("on day 6", x.says(1, 0, 1), 55);
        Due.due("STAY", x.says(0, 0, 0), 31);
        // More than 30 is 30: come on day 4, it leaves on day 34.
        x.day(27);
        Due.due("day 33", x.ship(0, 0), 1);
        x.day(1);
        Due.due("day 34", x.ship(0, 0), 2);
    }
}
