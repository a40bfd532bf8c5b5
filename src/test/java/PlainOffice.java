import java.util.ArrayList;
import java.util.Comparator;
import java.util.HashMap;
import java.util.List;
import java.util.Map;
import java.util.stream.Collectors;
import java.util.stream.IntStream;

/**
 * The document told a second time, as plainly as can be: nothing is kept that can be counted anew.
 * AnyCallsTest holds GalleyConvoy against it.
 */
final class PlainOffice {
    static final int BAD = -1, NOT = -2, FULL = -3, BAD_SUM = -2000000000;

    enum Place { HOME, IN_PORT, AT_SEA, DONE }

    enum Lies { ON_A_QUAY, ABOARD, GIVEN_OUT, THROWN }

    static final class Ship {
        int room, bears, speed, hull, port = -1, since = -1, way, freights, bid, bidder = -1;
        boolean let;
        Place place = Place.HOME;
        Map<Integer, Integer> parts = new HashMap<>(Map.of(-1, 24));
    }

    static final class Pack {
        int owner, from, to, kind, room, weight, worth, freight, made, since;
        Lies lies = Lies.ON_A_QUAY;
        int ship = -1;
    }

    record Told(int kind, int day, PlainText text) {
    }

    final long[] purse = new long[10];
    long chest, outside;
    int day;
    final int[] wind = new int[30];
    final List<Integer> legs = new ArrayList<>();
    final List<Ship> ships = new ArrayList<>();
    final List<Pack> packs = new ArrayList<>();
    final List<Told> votes = new ArrayList<>();
    String tape = "";

    private static boolean in(int v, int from, int to) {
        return from <= v && v <= to;
    }

    private static boolean of(int v, List<?> list) {
        return in(v, 0, list.size() - 1);
    }

    int purse(int person, int v) {
        if (!in(person, 0, 9) || !in(v, 1, 100000)) {
            return BAD_SUM;
        }
        outside += v;
        return (int) (purse[person] += v);
    }

    int port(int leg) {
        if (legs.isEmpty() ? leg != 0 : !in(leg, 1, 9)) {
            return BAD;
        }
        if (ships.stream().anyMatch(s -> s.place != Place.HOME)) {
            return NOT;
        }
        if (legs.size() == 12) {
            return FULL;
        }
        legs.add(leg);
        return legs.size() - 1;
    }

    int wind(int d, int w) {
        if (!in(d, 0, 29) || !in(w, -9, 9)) {
            return -100;
        }
        int was = wind[d];
        wind[d] = w;
        return was;
    }

    int galley(int room, int bears, int speed, int hull) {
        if (!in(room, 1, 999) || !in(bears, 1, 9999) || !in(speed, 1, 9) || !in(hull, 1, 9999)) {
            return BAD;
        }
        if (ships.size() == 8) {
            return FULL;
        }
        Ship s = new Ship();
        s.room = room;
        s.bears = bears;
        s.speed = speed;
        s.hull = hull;
        ships.add(s);
        return ships.size() - 1;
    }

    int bid(int galley, int person, int coins) {
        if (!of(galley, ships) || !in(person, 0, 9) || !in(coins, 1, 1000000)) {
            return BAD;
        }
        Ship s = ships.get(galley);
        if (s.let || s.bid >= coins || purse[person] < coins) {
            return NOT;
        }
        s.bid = coins;
        s.bidder = person;
        return 1;
    }

    int let(int galley) {
        if (!of(galley, ships)) {
            return BAD;
        }
        Ship s = ships.get(galley);
        if (s.let || s.bid == 0) {
            return NOT;
        }
        if (purse[s.bidder] < s.bid) {
            s.bid = 0;
            return NOT;
        }
        purse[s.bidder] -= s.bid;
        chest += s.bid;
        s.let = true;
        s.parts = new HashMap<>(Map.of(s.bidder, 24));
        return s.bidder;
    }

    int part(int galley, int from, int to, int n) {
        if (!of(galley, ships) || !in(from, 0, 9) || !in(to, 0, 9) || from == to || !in(n, 1, 24)) {
            return BAD;
        }
        Ship s = ships.get(galley);
        if (s.parts.getOrDefault(from, 0) < n) {
            return NOT;
        }
        s.parts.merge(from, -n, Integer::sum);
        return s.parts.merge(to, n, Integer::sum);
    }

    int parts(int galley, int person) {
        return of(galley, ships) && in(person, -1, 9) ? ships.get(galley).parts.getOrDefault(person, 0) : BAD;
    }

    int bale(int owner, int ports, int size, int price) {
        Pack p = new Pack();
        p.owner = owner;
        p.from = Math.floorDiv(ports, 100);
        p.to = Math.floorMod(ports, 100);
        p.kind = Math.floorDiv(size, 1000000);
        p.room = Math.floorMod(Math.floorDiv(size, 1000), 1000);
        p.weight = Math.floorMod(size, 1000);
        p.worth = Math.floorDiv(price, 1000);
        p.freight = Math.floorMod(price, 1000);
        p.made = day;
        p.since = day;
        if (!in(owner, 0, 9) || !of(p.from, legs) || !of(p.to, legs) || p.to <= p.from || !in(p.kind, 0, 2)
                || !in(p.room, 1, 99) || !in(p.weight, 1, 999) || !in(p.worth, 1, 9999)) {
            return BAD;
        }
        if (packs.size() == 300) {
            return FULL;
        }
        packs.add(p);
        return packs.size() - 1;
    }

    int about(int bale, int what) {
        if (!of(bale, packs) || !in(what, 0, 11)) {
            return BAD;
        }
        Pack p = packs.get(bale);
        return new int[] {p.owner, p.from, p.to, p.kind, p.room, p.weight, p.worth, p.freight, p.made,
            p.lies.ordinal(), p.ship, p.since}[what];
    }

    int feed(int n, int v) {
        if (!in(n, 1, 4)) {
            return BAD;
        }
        if (tape.length() + n > 200) {
            return FULL;
        }
        for (int i = 0; i < n; i++) {
            tape += (char) (v & 255);
            v >>= 8;
        }
        return tape.length();
    }

    int vote(int kind) {
        if (!in(kind, 0, 2)) {
            return BAD;
        }
        if (votes.size() == 30) {
            return FULL;
        }
        PlainText text = new PlainText(tape);
        tape = "";
        if (text.fault >= 0) {
            return -100 - text.fault;
        }
        votes.add(new Told(kind, day, text));
        return votes.size();
    }

    int known(int kind, int port) {
        if (!in(kind, 0, 2) || !of(port, legs)) {
            return BAD;
        }
        int far = IntStream.rangeClosed(0, port).map(legs::get).sum();
        return IntStream.range(0, votes.size())
                .filter(i -> votes.get(i).kind() == kind && votes.get(i).day() + far <= day).max().orElse(NOT);
    }

    private List<Pack> aboard(int galley) {
        return packs.stream().filter(p -> p.lies == Lies.ABOARD && p.ship == galley)
                .collect(Collectors.toCollection(ArrayList::new));
    }

    private static int sum(List<Pack> list, java.util.function.ToIntFunction<Pack> of) {
        return list.stream().mapToInt(of).sum();
    }

    private int value(int kind, int galley, int which) {
        Ship s = ships.get(galley);
        int vote = known(kind, s.port);
        if (vote == NOT) {
            return kind == 2 ? 0 : 1;
        }
        Map<String, Integer> names = new HashMap<>();
        names.put("port", s.port);
        names.put("day", day);
        names.put("ship", kind == 2 ? which : galley);
        names.put("here", (int) ships.stream().filter(o -> o.place == Place.IN_PORT && o.port == s.port).count());
        names.put("stayed", day - s.since);
        names.put("full", sum(aboard(galley), p -> p.weight));
        if (kind == 2) {
            names.put("late", day - s.since);
        }
        if (kind == 1) {
            Pack p = packs.get(which);
            names.putAll(Map.of("kind", p.kind, "room", p.room, "weight", p.weight, "worth", p.worth,
                    "freight", p.freight, "waits", day - p.made));
        }
        return votes.get(vote).text().value(names);
    }

    int says(int kind, int galley, int which) {
        if (!in(kind, 0, 2) || !of(galley, ships) || ships.get(galley).place != Place.IN_PORT
                || kind == 1 && !of(which, packs) || kind == 2 && (!of(which, ships) || which == galley)) {
            return BAD_SUM;
        }
        return value(kind, galley, which);
    }

    int start(int galley) {
        if (!of(galley, ships)) {
            return BAD;
        }
        Ship s = ships.get(galley);
        if (s.place != Place.HOME || legs.size() < 2) {
            return NOT;
        }
        s.place = Place.IN_PORT;
        s.port = 0;
        s.since = day;
        return 1;
    }

    int day(int n) {
        if (!in(n, 1, 100) || day + n > 2000) {
            return BAD;
        }
        for (int i = 0; i < n; i++) {
            day++;
            for (int g = 0; g < ships.size(); g++) {
                turn(g);
            }
        }
        return day;
    }

    private void turn(int g) {
        Ship s = ships.get(g);
        if (s.place == Place.AT_SEA) {
            int by = s.speed + wind[day % 30];
            s.way += by < 1 ? 1 : by;
            if (s.way >= 10 * legs.get(s.port)) {
                s.place = Place.IN_PORT;
                s.since = day;
                s.way = 0;
                aboard(g).stream().filter(p -> p.to == s.port).forEach(p -> giveOut(s, p));
            }
        } else if (s.place == Place.IN_PORT && s.since != day) {
            int stay = value(0, g, 0);
            stay = stay < 0 ? 0 : stay > 30 ? 30 : stay;
            boolean waits = IntStream.range(0, ships.size()).anyMatch(o -> o != g
                    && ships.get(o).place == Place.AT_SEA && ships.get(o).port == s.port && value(2, g, o) > 0);
            if (day - s.since >= stay && !waits) {
                if (s.port == legs.size() - 1) {
                    s.place = Place.DONE;
                } else {
                    lade(g);
                    s.place = Place.AT_SEA;
                    s.port++;
                    s.way = 0;
                    s.since = day;
                }
            }
        }
    }

    private void giveOut(Ship s, Pack p) {
        p.lies = Lies.GIVEN_OUT;
        p.since = day;
        s.freights += p.freight;
        purse[p.owner] -= p.freight;
        int paid = 0;
        for (int person = 0; person < 10; person++) {
            int share = p.freight * s.parts.getOrDefault(person, 0) / 24;
            purse[person] += share;
            paid += share;
        }
        int office = p.freight * s.parts.getOrDefault(-1, 0) / 24;
        chest += office;
        chest += p.freight - paid - office;
    }

    private void lade(int g) {
        Ship s = ships.get(g);
        Map<Pack, Integer> lade = new HashMap<>();
        List<Pack> quay = new ArrayList<>();
        for (int b = 0; b < packs.size(); b++) {
            Pack p = packs.get(b);
            if (p.lies == Lies.ON_A_QUAY && p.from == s.port && value(1, g, b) > 0) {
                quay.add(p);
                lade.put(p, value(1, g, b));
            }
        }
        quay.sort(Comparator.comparing((Pack p) -> lade.get(p)).reversed());
        for (Pack p : quay) {
            List<Pack> all = aboard(g);
            all.add(p);
            int heavy = all.stream().filter(q -> q.kind == 1).mapToInt(q -> q.weight).sum();
            if (sum(all, q -> q.room) <= s.room && sum(all, q -> q.weight) <= s.bears
                    && (p.kind != 1 || heavy <= s.bears / 2)) {
                p.lies = Lies.ABOARD;
                p.ship = g;
                p.since = day;
            }
        }
    }

    int toss(int galley, int weight) {
        if (!of(galley, ships) || !in(weight, 1, 100000)) {
            return BAD;
        }
        Ship s = ships.get(galley);
        List<Pack> all = aboard(galley);
        if (s.place != Place.AT_SEA || all.isEmpty()) {
            return NOT;
        }
        all.sort(Comparator.comparing((Pack p) -> -p.weight));
        long loss = 0;
        int gone = 0;
        for (Pack p : all) {
            if (gone < weight) {
                gone += p.weight;
                loss += p.worth;
                p.lies = Lies.THROWN;
                p.since = day;
                purse[p.owner] += p.worth;
            }
        }
        long bearing = s.hull + sum(all, p -> p.worth);
        chest -= loss;
        for (Pack p : all) {
            purse[p.owner] -= loss * p.worth / bearing;
            chest += loss * p.worth / bearing;
        }
        return (int) loss;
    }

    int ship(int galley, int what) {
        if (!of(galley, ships) || !in(what, 0, 9)) {
            return -2;
        }
        Ship s = ships.get(galley);
        List<Pack> all = aboard(galley);
        return new int[] {s.place.ordinal(), s.port, s.since, s.way, all.size(), sum(all, p -> p.room),
            sum(all, p -> p.weight), s.freights, s.bid, s.let ? 1 : 0}[what];
    }

    int count(int what) {
        if (in(what, 5, 8)) {
            return (int) packs.stream().filter(p -> p.lies.ordinal() == what - 5).count();
        }
        return in(what, 0, 9) ? new int[] {legs.size(), ships.size(), packs.size(), votes.size(), day, 0, 0, 0, 0,
            tape.length()}[what] : BAD;
    }

    int coins(int who) {
        if (!in(who, 0, 11)) {
            return BAD_SUM;
        }
        return (int) (who == 10 ? chest : who == 11 ? outside : purse[who]);
    }
}
