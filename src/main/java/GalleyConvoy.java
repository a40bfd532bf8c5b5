import java.util.ArrayList;
import java.util.Arrays;

/**
 * An office that sends galleys along a line of ports. The document's words are used for all names:
 * persons, purses, ports, winds, galleys, bales, votes and the tape.
 */
public final class GalleyConvoy {
    public static final int BAD = -1, NOT = -2, FULL = -3;

    // BAD has other numbers where -1 may be a true answer.
    private static final int BAD_SUM = -2000000000;
    private static final int BAD_WIND = -100;
    private static final int BAD_SHIP = -2;
    private static final int FAULT_AT_0 = -100;

    private static final int PERSONS = 10;
    private static final int THE_OFFICE = 10;
    private static final int MOST_PORTS = 12;
    private static final int WIND_DAYS = 30;
    private static final int MOST_GALLEYS = 8;
    private static final int ALL_PARTS = 24;
    private static final int MOST_BALES = 300;
    private static final int MOST_VOTES = 30;
    private static final int MOST_BYTES = 200;
    private static final int LAST_DAY = 2000;
    private static final int LONGEST_STAY = 30;
    private static final int WAY_OF_A_LEG_DAY = 10;

    private static final int HOME = 0, IN_PORT = 1, AT_SEA = 2, DONE = 3;
    private static final int ON_A_QUAY = 0, ABOARD = 1, GIVEN_OUT = 2, THROWN = 3;
    private static final int HEAVY = 1, COIN = 2;

    private static final int STAY = 0, LADE = 1, WAIT = 2;
    private static final int[] WITHOUT_VOTE = {1, 1, 0};

    private final int[] purses = new int[PERSONS];
    private int chest;
    private int outside;
    private final int[] legs = new int[MOST_PORTS];
    private final int[] fars = new int[MOST_PORTS];
    private int portCount;
    private final int[] winds = new int[WIND_DAYS];
    private final ArrayList<Galley> galleys = new ArrayList<>();
    private final ArrayList<Bale> bales = new ArrayList<>();
    private final ArrayList<Vote> votes = new ArrayList<>();
    private final Reader reader = new Reader();
    private final Teller teller = new Teller();
    // One row for lading and throwing alike, so that no day makes a new one.
    private final ArrayList<Bale> ranked = new ArrayList<>();
    private int today;

    public GalleyConvoy() {
    }

    public int purse(int person, int v) {
        if (!isPerson(person) || !within(v, 1, 100000)) {
            return BAD_SUM;
        }
        purses[person] += v;
        outside += v;
        return purses[person];
    }

    public int port(int leg) {
        boolean first = portCount == 0;
        if (first ? leg != 0 : !within(leg, 1, 9)) {
            return BAD;
        }
        if (!allAreHome()) {
            return NOT;
        }
        if (portCount >= MOST_PORTS) {
            return FULL;
        }
        int number = portCount;
        legs[number] = leg;
        fars[number] = first ? 0 : fars[number - 1] + leg;
        portCount++;
        return number;
    }

    public int wind(int day, int w) {
        if (!within(day, 0, WIND_DAYS - 1) || !within(w, -9, 9)) {
            return BAD_WIND;
        }
        int before = winds[day];
        winds[day] = w;
        return before;
    }

    public int galley(int room, int bears, int speed, int hull) {
        if (!within(room, 1, 999) || !within(bears, 1, 9999)
                || !within(speed, 1, 9) || !within(hull, 1, 9999)) {
            return BAD;
        }
        int number = galleys.size();
        if (number >= MOST_GALLEYS) {
            return FULL;
        }
        galleys.add(new Galley(number, room, bears, speed, hull));
        return number;
    }

    // ---- letting

    public int bid(int galley, int person, int coins) {
        Galley wanted = galleyOf(galley);
        if (wanted == null || !isPerson(person) || !within(coins, 1, 1000000)) {
            return BAD;
        }
        if (wanted.isLet || coins <= wanted.highestBid || purses[person] < coins) {
            return NOT;
        }
        wanted.highestBid = coins;
        wanted.bidder = person;
        return 1;
    }

    public int let(int galley) {
        Galley wanted = galleyOf(galley);
        if (wanted == null) {
            return BAD;
        }
        if (wanted.isLet || wanted.highestBid == 0) {
            return NOT;
        }
        int person = wanted.bidder;
        if (purses[person] < wanted.highestBid) {
            wanted.highestBid = 0;
            return NOT;
        }
        purses[person] -= wanted.highestBid;
        chest += wanted.highestBid;
        wanted.letTo(person);
        return person;
    }

    public int part(int galley, int from, int to, int n) {
        Galley held = galleyOf(galley);
        if (held == null || !isPerson(from) || !isPerson(to) || from == to
                || !within(n, 1, ALL_PARTS)) {
            return BAD;
        }
        if (held.parts[from] < n) {
            return NOT;
        }
        held.parts[from] -= n;
        held.parts[to] += n;
        return held.parts[to];
    }

    public int parts(int galley, int person) {
        Galley held = galleyOf(galley);
        if (held == null || !(person == -1 || isPerson(person))) {
            return BAD;
        }
        return held.parts[person == -1 ? THE_OFFICE : person];
    }

    // ---- bales

    public int bale(int owner, int ports, int size, int price) {
        if (!isPerson(owner) || !isRoute(ports) || !isSize(size) || !isPrice(price)) {
            return BAD;
        }
        int number = bales.size();
        if (number >= MOST_BALES) {
            return FULL;
        }
        bales.add(new Bale(owner, ports, size, price, today));
        return number;
    }

    public int about(int bale, int what) {
        Bale asked = baleOf(bale);
        return asked == null ? BAD : asked.tell(what);
    }

    // ---- votes

    public int feed(int n, int v) {
        if (!within(n, 1, 4)) {
            return BAD;
        }
        if (reader.tape.length + n > MOST_BYTES) {
            return FULL;
        }
        reader.tape.append(n, v);
        return reader.tape.length;
    }

    public int vote(int kind) {
        if (!isVoteKind(kind)) {
            return BAD;
        }
        if (votes.size() >= MOST_VOTES) {
            return FULL;
        }
        int fault = reader.read();
        reader.tape.length = 0;
        if (fault != Reader.NO_FAULT) {
            return FAULT_AT_0 - fault;
        }
        votes.add(new Vote(kind, today, reader.stepsRead()));
        return votes.size();
    }

    public int known(int kind, int port) {
        if (!isVoteKind(kind) || !within(port, 0, portCount - 1)) {
            return BAD;
        }
        return inForce(kind, port);
    }

    public int says(int kind, int galley, int which) {
        Galley asked = galleyOf(galley);
        if (!isVoteKind(kind) || asked == null || asked.state != IN_PORT) {
            return BAD_SUM;
        }
        lookAt(asked);
        if (kind == LADE) {
            Bale bale = baleOf(which);
            if (bale == null) {
                return BAD_SUM;
            }
            teller.lookAtBale(bale, today);
        }
        if (kind == WAIT) {
            Galley other = galleyOf(which);
            if (other == null || which == galley) {
                return BAD_SUM;
            }
            teller.lookAtOther(other);
        }
        return workedOut(kind, inForce(kind, asked.port));
    }

    // ---- sailing

    public int start(int galley) {
        Galley starting = galleyOf(galley);
        if (starting == null) {
            return BAD;
        }
        if (starting.state != HOME || portCount < 2) {
            return NOT;
        }
        starting.comeTo(0, today);
        return 1;
    }

    public int day(int n) {
        if (!within(n, 1, 100) || today + n > LAST_DAY) {
            return BAD;
        }
        for (int i = 0; i < n; i++) {
            goByOneDay();
        }
        return today;
    }

    public int toss(int galley, int weight) {
        Galley tossing = galleyOf(galley);
        if (tossing == null || !within(weight, 1, 100000)) {
            return BAD;
        }
        if (tossing.state != AT_SEA || tossing.aboard == 0) {
            return NOT;
        }
        int bearing = tossing.hull + rankAboard(tossing);
        int loss = throwOut(tossing, weight);
        shareLoss(loss, bearing);
        return loss;
    }

    public int ship(int galley, int what) {
        Galley asked = galleyOf(galley);
        return asked == null ? BAD_SHIP : asked.tell(what);
    }

    public int count(int what) {
        switch (what) {
            case 0: return portCount;
            case 1: return galleys.size();
            case 2: return bales.size();
            case 3: return votes.size();
            case 4: return today;
            case 5: return balesInState(ON_A_QUAY);
            case 6: return balesInState(ABOARD);
            case 7: return balesInState(GIVEN_OUT);
            case 8: return balesInState(THROWN);
            case 9: return reader.tape.length;
            default: return BAD;
        }
    }

    public int coins(int who) {
        if (isPerson(who)) {
            return purses[who];
        }
        if (who == PERSONS) {
            return chest;
        }
        return who == PERSONS + 1 ? outside : BAD_SUM;
    }

    // ---- what a number must be

    private static boolean within(int v, int least, int most) {
        return v >= least && v <= most;
    }

    private static boolean isPerson(int person) {
        return within(person, 0, PERSONS - 1);
    }

    private static boolean isVoteKind(int kind) {
        return within(kind, STAY, WAIT);
    }

    private boolean isRoute(int ports) {
        return ports >= 0 && ports / 100 < ports % 100 && ports % 100 < portCount;
    }

    private static boolean isSize(int size) {
        return size >= 0 && size / 1000000 <= COIN
                && within(size / 1000 % 1000, 1, 99) && within(size % 1000, 1, 999);
    }

    private static boolean isPrice(int price) {
        return price >= 0 && within(price / 1000, 1, 9999);
    }

    private Galley galleyOf(int number) {
        return within(number, 0, galleys.size() - 1) ? galleys.get(number) : null;
    }

    private Bale baleOf(int number) {
        return within(number, 0, bales.size() - 1) ? bales.get(number) : null;
    }

    private boolean allAreHome() {
        for (int i = 0; i < galleys.size(); i++) {
            if (galleys.get(i).state != HOME) {
                return false;
            }
        }
        return true;
    }

    private int balesInState(int state) {
        int found = 0;
        for (int i = 0; i < bales.size(); i++) {
            if (bales.get(i).state == state) {
                found++;
            }
        }
        return found;
    }

    // ---- what votes say

    /** The number of the vote in force at a port today, or NOT. */
    private int inForce(int kind, int port) {
        for (int i = votes.size() - 1; i >= 0; i--) {
            Vote vote = votes.get(i);
            if (vote.kind == kind && today - vote.told >= fars[port]) {
                return i;
            }
        }
        return NOT;
    }

    /** What a vote gives for all that the teller looks at now. */
    private int workedOut(int kind, int vote) {
        if (!within(vote, 0, votes.size() - 1)) {
            return WITHOUT_VOTE[kind];
        }
        return teller.workOut(votes.get(vote).steps);
    }

    private void lookAt(Galley galley) {
        int here = 0;
        for (int i = 0; i < galleys.size(); i++) {
            Galley other = galleys.get(i);
            if (other.state == IN_PORT && other.port == galley.port) {
                here++;
            }
        }
        teller.lookAtGalley(galley, today, here);
    }

    // ---- a day goes by

    private void goByOneDay() {
        today++;
        for (int i = 0; i < galleys.size(); i++) {
            Galley galley = galleys.get(i);
            // One that comes today is not asked to leave: it was AT SEA when its turn came.
            if (galley.state == AT_SEA) {
                sailOn(galley);
            } else if (galley.state == IN_PORT && hasStayed(galley) && !waitsForAnother(galley)) {
                leave(galley);
            }
        }
    }

    private void sailOn(Galley galley) {
        galley.way += Math.max(1, galley.speed + winds[today % WIND_DAYS]);
        if (galley.way < WAY_OF_A_LEG_DAY * legs[galley.port]) {
            return;
        }
        galley.comeTo(galley.port, today);
        for (int i = 0; i < bales.size(); i++) {
            Bale bale = bales.get(i);
            if (bale.isAboard(galley) && bale.to == galley.port) {
                giveOut(bale, galley);
            }
        }
    }

    private void giveOut(Bale bale, Galley galley) {
        galley.unload(bale);
        bale.turn(GIVEN_OUT, today);
        galley.freights += bale.freight;
        purses[bale.owner] -= bale.freight;
        int left = bale.freight;
        for (int person = 0; person < PERSONS; person++) {
            int share = bale.freight * galley.parts[person] / ALL_PARTS;
            purses[person] += share;
            left -= share;
        }
        chest += left;
    }

    private boolean hasStayed(Galley galley) {
        lookAt(galley);
        int stay = workedOut(STAY, inForce(STAY, galley.port));
        return today - galley.since >= Math.max(0, Math.min(LONGEST_STAY, stay));
    }

    private boolean waitsForAnother(Galley galley) {
        lookAt(galley);
        int vote = inForce(WAIT, galley.port);
        for (int i = 0; i < galleys.size(); i++) {
            Galley other = galleys.get(i);
            if (other.state == AT_SEA && other.port == galley.port) {
                teller.lookAtOther(other);
                if (workedOut(WAIT, vote) > 0) {
                    return true;
                }
            }
        }
        return false;
    }

    private void leave(Galley galley) {
        if (galley.port >= portCount - 1) {
            galley.state = DONE;
            return;
        }
        rankForLading(galley);
        for (int i = 0; i < ranked.size(); i++) {
            Bale bale = ranked.get(i);
            if (galley.canTake(bale)) {
                galley.load(bale);
                bale.galley = galley.number;
                bale.turn(ABOARD, today);
            }
        }
        galley.putToSea(today);
    }

    /** All LADEs are worked out ahead of the first bale's coming aboard, for they may ask how full it is. */
    private void rankForLading(Galley galley) {
        ranked.clear();
        lookAt(galley);
        int vote = inForce(LADE, galley.port);
        for (int i = 0; i < bales.size(); i++) {
            Bale bale = bales.get(i);
            if (bale.state == ON_A_QUAY && bale.from == galley.port) {
                teller.lookAtBale(bale, today);
                int lade = workedOut(LADE, vote);
                if (lade > 0) {
                    rank(bale, lade);
                }
            }
        }
    }

    /** Bales are ranked by numbers: one of the same rank goes behind those that stand there. */
    private void rank(Bale bale, int rank) {
        bale.rank = rank;
        int place = ranked.size();
        for (int i = ranked.size() - 1; i >= 0 && ranked.get(i).rank < rank; i--) {
            place = i;
        }
        ranked.add(place, bale);
    }

    // ---- throwing

    /** Ranks all bales aboard, the heaviest first, and answers what they are worth. */
    private int rankAboard(Galley galley) {
        ranked.clear();
        int worth = 0;
        for (int i = 0; i < bales.size(); i++) {
            Bale bale = bales.get(i);
            if (bale.isAboard(galley)) {
                rank(bale, bale.weight);
                worth += bale.worth;
            }
        }
        return worth;
    }

    private int throwOut(Galley galley, int weight) {
        int loss = 0;
        int thrown = 0;
        for (int i = 0; i < ranked.size() && thrown < weight; i++) {
            Bale bale = ranked.get(i);
            galley.unload(bale);
            bale.turn(THROWN, today);
            purses[bale.owner] += bale.worth;
            thrown += bale.weight;
            loss += bale.worth;
        }
        return loss;
    }

    private void shareLoss(int loss, int bearing) {
        if (bearing < 1) {
            return;
        }
        int left = loss;
        for (int i = 0; i < ranked.size(); i++) {
            Bale bale = ranked.get(i);
            // A loss times a worth may be more than an int holds.
            int share = (int) ((long) loss * bale.worth / bearing);
            purses[bale.owner] -= share;
            left -= share;
        }
        chest -= left;
    }

    // ---- the classes inside

    private static final class Galley {
        final int number;
        final int room;
        final int bears;
        final int speed;
        final int hull;
        // The office's parts stand behind those of the persons.
        final int[] parts = new int[PERSONS + 1];
        int highestBid;
        int bidder;
        boolean isLet;
        int state = HOME;
        int port = -1;
        int since = -1;
        int way;
        int aboard;
        int roomAboard;
        int weightAboard;
        int heavyAboard;
        int freights;

        Galley(int number, int room, int bears, int speed, int hull) {
            this.number = number;
            this.room = room;
            this.bears = bears;
            this.speed = speed;
            this.hull = hull;
            parts[THE_OFFICE] = ALL_PARTS;
        }

        void letTo(int person) {
            parts[THE_OFFICE] = 0;
            parts[person] = ALL_PARTS;
            isLet = true;
        }

        void comeTo(int newPort, int today) {
            state = IN_PORT;
            port = newPort;
            since = today;
            way = 0;
        }

        void putToSea(int today) {
            state = AT_SEA;
            port++;
            since = today;
            way = 0;
        }

        boolean canTake(Bale bale) {
            return roomAboard + bale.room <= room
                    && weightAboard + bale.weight <= bears
                    && (bale.kind != HEAVY || heavyAboard + bale.weight <= bears / 2);
        }

        void load(Bale bale) {
            change(bale, 1);
        }

        void unload(Bale bale) {
            change(bale, -1);
        }

        private void change(Bale bale, int by) {
            aboard += by;
            roomAboard += by * bale.room;
            weightAboard += by * bale.weight;
            if (bale.kind == HEAVY) {
                heavyAboard += by * bale.weight;
            }
        }

        int tell(int what) {
            switch (what) {
                case 0: return state;
                case 1: return port;
                case 2: return since;
                case 3: return way;
                case 4: return aboard;
                case 5: return roomAboard;
                case 6: return weightAboard;
                case 7: return freights;
                case 8: return highestBid;
                case 9: return isLet ? 1 : 0;
                default: return BAD_SHIP;
            }
        }
    }

    private static final class Bale {
        final int owner;
        final int from;
        final int to;
        final int kind;
        final int room;
        final int weight;
        final int worth;
        final int freight;
        final int made;
        int state = ON_A_QUAY;
        int galley = -1;
        int since;
        int rank;

        Bale(int owner, int ports, int size, int price, int today) {
            this.owner = owner;
            from = ports / 100;
            to = ports % 100;
            kind = size / 1000000;
            room = size / 1000 % 1000;
            weight = size % 1000;
            worth = price / 1000;
            freight = price % 1000;
            made = today;
            since = today;
        }

        boolean isAboard(Galley asked) {
            return state == ABOARD && galley == asked.number;
        }

        void turn(int newState, int today) {
            state = newState;
            since = today;
        }

        int tell(int what) {
            switch (what) {
                case 0: return owner;
                case 1: return from;
                case 2: return to;
                case 3: return kind;
                case 4: return room;
                case 5: return weight;
                case 6: return worth;
                case 7: return freight;
                case 8: return made;
                case 9: return state;
                case 10: return galley;
                case 11: return since;
                default: return BAD;
            }
        }
    }

    private static final class Vote {
        final int kind;
        final int told;
        final int[] steps;

        Vote(int kind, int told, int[] steps) {
            this.kind = kind;
            this.told = told;
            this.steps = steps;
        }
    }

    private static final class Tape {
        final int[] bytes = new int[MOST_BYTES];
        int length;

        void append(int n, int v) {
            for (int i = 0; i < n && length < MOST_BYTES; i++) {
                bytes[length] = (v >>> (8 * i)) & 255;
                length++;
            }
        }

        /** The byte at a place, or a blank beyond the end. */
        int at(int place) {
            return within(place, 0, length - 1) ? bytes[place] : ' ';
        }
    }

    /**
     * Reads a TEXT, one method for each line of its grammar, and turns it into steps for the Teller:
     * the two sides' steps come ahead of the step that joins them, so that no tree is kept.
     * A method that answers false has stopped at the token with which no TEXT goes on.
     */
    private static final class Reader {
        static final int NO_FAULT = -1;

        // A sign's token is its byte; the others lie beyond all bytes.
        static final int END = 256, NUMBER = 257, NAME = 258, STRANGE = 259;
        static final int AND = 260, OR = 261, DENY = 262;
        // Not a token: the step of a - ahead of an O.
        static final int NEGATE = 263;

        // Each word has eight places; the first thirteen are the NAMES, as the Teller counts them.
        private static final String WORDS = "port    day     ship    here    late    stayed  full    kind    room    weight  worth   freight waits   and     or      not     ";
        private static final int WORD_PLACES = 8;
        private static final int WORD_COUNT = 16;
        private static final int MOST_DIGITS = 5;
        private static final int MOST_OPEN = 12;

        final Tape tape = new Tape();
        private int place;
        private int token;
        private int tokenStart;
        private int tokenValue;
        private final int[] steps = new int[MOST_BYTES];
        private int stepCount;

        /** The FAULT of what the tape has, or NO_FAULT. */
        int read() {
            place = 0;
            stepCount = 0;
            nextToken();
            return readEither(0) && token == END ? NO_FAULT : tokenStart;
        }

        int[] stepsRead() {
            return Arrays.copyOf(steps, stepCount);
        }

        // E = A { or A }
        private boolean readEither(int open) {
            if (!readBoth(open)) {
                return false;
            }
            for (int i = 0; i < MOST_BYTES && token == OR; i++) {
                nextToken();
                if (!readBoth(open)) {
                    return false;
                }
                putStep(-OR);
            }
            return true;
        }

        // A = N { and N }
        private boolean readBoth(int open) {
            if (!readDenied(open)) {
                return false;
            }
            for (int i = 0; i < MOST_BYTES && token == AND; i++) {
                nextToken();
                if (!readDenied(open)) {
                    return false;
                }
                putStep(-AND);
            }
            return true;
        }

        // N = not N, or C
        private boolean readDenied(int open) {
            if (token != DENY) {
                return readCompared(open);
            }
            if (open >= MOST_OPEN) {
                return false;
            }
            nextToken();
            if (!readDenied(open + 1)) {
                return false;
            }
            putStep(-DENY);
            return true;
        }

        // C = S [ < S, = S, or > S ]
        private boolean readCompared(int open) {
            if (!readSum(open)) {
                return false;
            }
            int sign = token;
            if (sign != '<' && sign != '=' && sign != '>') {
                return true;
            }
            nextToken();
            if (!readSum(open)) {
                return false;
            }
            putStep(-sign);
            return true;
        }

        // S = P { + P, - P }
        private boolean readSum(int open) {
            if (!readProduct(open)) {
                return false;
            }
            for (int i = 0; i < MOST_BYTES && (token == '+' || token == '-'); i++) {
                int sign = token;
                nextToken();
                if (!readProduct(open)) {
                    return false;
                }
                putStep(-sign);
            }
            return true;
        }

        // P = O { * O }
        private boolean readProduct(int open) {
            if (!readOperand(open)) {
                return false;
            }
            for (int i = 0; i < MOST_BYTES && token == '*'; i++) {
                nextToken();
                if (!readOperand(open)) {
                    return false;
                }
                putStep(-'*');
            }
            return true;
        }

        // O = a NUMBER, - O, ( E ), or a NAME
        private boolean readOperand(int open) {
            if (token == NUMBER || token == NAME) {
                putStep(token == NUMBER ? tokenValue : -1 - tokenValue);
                nextToken();
                return true;
            }
            if (token != '-' && token != '(' || open >= MOST_OPEN) {
                return false;
            }
            boolean bracket = token == '(';
            nextToken();
            return bracket ? readBracket(open + 1) : readNegated(open + 1);
        }

        private boolean readBracket(int open) {
            if (!readEither(open) || token != ')') {
                return false;
            }
            nextToken();
            return true;
        }

        private boolean readNegated(int open) {
            if (!readOperand(open)) {
                return false;
            }
            putStep(-NEGATE);
            return true;
        }

        private void putStep(int step) {
            if (stepCount < steps.length) {
                steps[stepCount] = step;
                stepCount++;
            }
        }

        private void nextToken() {
            for (int i = 0; i < MOST_BYTES && place < tape.length && tape.at(place) == ' '; i++) {
                place++;
            }
            tokenStart = place;
            if (place >= tape.length) {
                token = END;
            } else if (isDigit(tape.at(place))) {
                takeNumber();
            } else if (isLetter(tape.at(place))) {
                takeWord();
            } else {
                token = tape.at(place);
                place++;
            }
        }

        private void takeNumber() {
            tokenValue = 0;
            for (int i = 0; i < MOST_BYTES && isDigit(tape.at(place)); i++) {
                tokenValue = tokenValue * 10 + tape.at(place) - '0';
                place++;
            }
            token = place - tokenStart <= MOST_DIGITS ? NUMBER : STRANGE;
        }

        private void takeWord() {
            for (int i = 0; i < MOST_BYTES && isLetter(tape.at(place)); i++) {
                place++;
            }
            token = STRANGE;
            for (int word = 0; word < WORD_COUNT && token == STRANGE; word++) {
                if (isWord(word)) {
                    tokenValue = word;
                    token = word < Teller.NAMES ? NAME : AND + word - Teller.NAMES;
                }
            }
        }

        /** Whether the bytes from the token's start to the place are that word and no more. */
        private boolean isWord(int word) {
            for (int i = 0; i < WORD_PLACES; i++) {
                int letter = tokenStart + i < place ? tape.at(tokenStart + i) : ' ';
                if (letter != WORDS.charAt(word * WORD_PLACES + i)) {
                    return false;
                }
            }
            return true;
        }

        private static boolean isDigit(int sign) {
            return within(sign, '0', '9');
        }

        private static boolean isLetter(int sign) {
            return within(sign, 'a', 'z');
        }
    }

    /** Knows what each NAME stands for at the moment, and works out the steps of a vote. */
    private static final class Teller {
        static final int NAMES = 13;
        private static final int PORT = 0, DAY = 1, SHIP = 2, HERE = 3, LATE = 4, STAYED = 5, FILLED = 6;
        private static final int KIND = 7, ROOM = 8, WEIGHT = 9, WORTH = 10, FREIGHT = 11, WAITS = 12;

        private final int[] names = new int[NAMES];
        private final int[] stack = new int[MOST_BYTES];

        void lookAtGalley(Galley galley, int today, int here) {
            Arrays.fill(names, 0);
            names[PORT] = galley.port;
            names[DAY] = today;
            names[SHIP] = galley.number;
            names[HERE] = here;
            names[STAYED] = today - galley.since;
            names[FILLED] = galley.weightAboard;
        }

        void lookAtBale(Bale bale, int today) {
            names[KIND] = bale.kind;
            names[ROOM] = bale.room;
            names[WEIGHT] = bale.weight;
            names[WORTH] = bale.worth;
            names[FREIGHT] = bale.freight;
            names[WAITS] = today - bale.made;
        }

        void lookAtOther(Galley other) {
            names[SHIP] = other.number;
            names[LATE] = names[STAYED];
        }

        int workOut(int[] steps) {
            int top = 0;
            for (int i = 0; i < steps.length; i++) {
                int step = steps[i];
                if (step >= -NAMES) {
                    if (top < stack.length) {
                        stack[top] = step >= 0 ? step : names[-1 - step];
                        top++;
                    }
                } else if (step == -Reader.NEGATE || step == -Reader.DENY) {
                    if (top >= 1) {
                        stack[top - 1] = turned(step, stack[top - 1]);
                    }
                } else if (top >= 2) {
                    top--;
                    stack[top - 1] = joined(-step, stack[top - 1], stack[top]);
                }
            }
            return stack[0];
        }

        private static int turned(int step, int v) {
            if (step == -Reader.NEGATE) {
                return -v;
            }
            return v == 0 ? 1 : 0;
        }

        private static int joined(int sign, int left, int right) {
            switch (sign) {
                case '+': return left + right;
                case '-': return left - right;
                case '*': return left * right;
                case '<': return left < right ? 1 : 0;
                case '=': return left == right ? 1 : 0;
                case '>': return left > right ? 1 : 0;
                case Reader.AND: return left != 0 && right != 0 ? 1 : 0;
                case Reader.OR: return left != 0 || right != 0 ? 1 : 0;
                default: return 0;
            }
        }
    }
}
