import java.util.ArrayList;
import java.util.Arrays;
import java.util.List;
import java.util.Set;
import java.util.TreeMap;
import java.util.TreeSet;

/**
 * The whole face once more, from the document's words and with the Java library, in the plainest way: no row is used again, a
 * mark is a copy, a refused call throws. ModelTest compares its answers with those of CargoFlag.
 */
final class Model {
    /** Why a call is refused. */
    static final class Refusal extends RuntimeException {
        private static final long serialVersionUID = 1;
        final int status;

        Refusal(int status) {
            super("status " + status, null, false, false);
            this.status = status;
        }
    }

    /** A row of numbers. */
    static final class Row {
        int sort;
        long[] numbers;
    }

    /** One ship. */
    static final class Hull {
        int port;
        int goal = -1;
        int daysToGo;
        int hold;
        int coins = 100;
        int unpaid;
        int duties;
        TreeMap<Integer, Integer> load = new TreeMap<>();

        Hull copy() {
            Hull h = new Hull();
            h.port = port;
            h.goal = goal;
            h.daysToGo = daysToGo;
            h.hold = hold;
            h.coins = coins;
            h.unpaid = unpaid;
            h.duties = duties;
            h.load = new TreeMap<>(load);
            return h;
        }

        boolean atSea() {
            return daysToGo > 0;
        }

        int tons(int good) {
            return load.getOrDefault(good, 0);
        }

        int allTons() {
            return load.values().stream().mapToInt(t -> t).sum();
        }

        void put(int good, int tons) {
            if (tons == 0) {
                load.remove(good);
            } else {
                load.put(good, tons);
            }
        }
    }

    /** A world with all that became of it, and its voyages. */
    static final class Globe {
        List<String> nations = new ArrayList<>();
        List<String> goods = new ArrayList<>();
        List<String> ports = new ArrayList<>();
        List<String> ships = new ArrayList<>();
        List<int[]> lawOfNation = new ArrayList<>();
        List<int[]> kindOfGood = new ArrayList<>();
        List<Integer> nationOfPort = new ArrayList<>();
        Set<String> wars = new TreeSet<>();
        TreeMap<String, Integer> prices = new TreeMap<>();
        TreeMap<String, Integer> ways = new TreeMap<>();
        List<Hull> hulls = new ArrayList<>();
        int rule;
        int day;
        List<ModelText.Step> voyages;

        Globe copy() {
            Globe g = new Globe();
            g.nations = nations;
            g.goods = goods;
            g.ports = ports;
            g.ships = ships;
            g.lawOfNation = lawOfNation;
            g.kindOfGood = kindOfGood;
            g.nationOfPort = nationOfPort;
            g.wars = new TreeSet<>(wars);
            g.prices = new TreeMap<>(prices);
            g.ways = ways;
            for (Hull h : hulls) {
                g.hulls.add(h.copy());
            }
            g.rule = rule;
            g.day = day;
            g.voyages = voyages;
            return g;
        }

        static String pair(int a, int b) {
            return Math.min(a, b) + "-" + Math.max(a, b);
        }

        boolean atWar(int a, int b) {
            return wars.contains(pair(a, b));
        }

        int price(int port, int good) {
            return prices.getOrDefault(port + " " + good, 0);
        }

        int way(int a, int b) {
            return ways.getOrDefault(pair(a, b), 0);
        }

        int weight(Hull h, int nation, int byRule) {
            int sum = 0;
            for (int g : h.load.keySet()) {
                if (kindOfGood.get(g)[0] == nation) {
                    sum += byRule == 0 ? h.tons(g) : byRule == 1 ? 1 : h.tons(g) * kindOfGood.get(g)[1];
                }
            }
            return sum;
        }

        TreeSet<Integer> captains(Hull h, int byRule) {
            int greatest = 0;
            for (int n = 0; n < nations.size(); n++) {
                greatest = Math.max(greatest, weight(h, n, byRule));
            }
            TreeSet<Integer> set = new TreeSet<>();
            for (int n = 0; n < nations.size() && greatest > 0; n++) {
                if (weight(h, n, byRule) == greatest) {
                    set.add(n);
                }
            }
            return set;
        }

        TreeSet<Integer> captains(Hull h) {
            return captains(h, rule);
        }

        int ruled(Hull h, int byRule) {
            TreeSet<Integer> set = captains(h, byRule);
            return set.size() == 1 ? set.first() : -1;
        }

        int ruled(Hull h) {
            return ruled(h, rule);
        }

        boolean lawful(Hull h, int deed) {
            TreeSet<Integer> captains = captains(h);
            long knowing = captains.stream().filter(n -> (lawOfNation.get(n)[2] & 1 << deed) != 0).count();
            return captains.size() == 1 ? knowing == 1 : knowing == 0 || knowing == captains.size();
        }

        void buy(Hull h, int good, int tons) {
            if (h.atSea() || price(h.port, good) == 0 || h.allTons() + tons > h.hold || h.coins < tons * price(h.port, good)) {
                throw new Refusal(7);
            }
            h.coins -= tons * price(h.port, good);
            h.put(good, h.tons(good) + tons);
        }

        void sell(Hull h, int good, int tons) {
            if (h.atSea() || price(h.port, good) == 0 || h.tons(good) < tons) {
                throw new Refusal(7);
            }
            h.coins = Math.min(9999, h.coins + tons * price(h.port, good));
            h.put(good, h.tons(good) - tons);
        }

        void dump(Hull h, int good, int tons) {
            if (h.tons(good) < tons) {
                throw new Refusal(7);
            }
            h.put(good, h.tons(good) - tons);
        }

        void sail(Hull h, int port) {
            if (h.atSea() || port == h.port || way(h.port, port) == 0) {
                throw new Refusal(7);
            }
            h.goal = port;
            h.daysToGo = way(h.port, port);
            h.port = -1;
        }

        void leak(Hull h) {
            for (int g : new ArrayList<>(h.load.keySet())) {
                h.put(g, Math.max(0, h.tons(g) - kindOfGood.get(g)[2]));
            }
        }

        /** A day of one ship: whether it lies in a port anew. */
        boolean dayOf(Hull h) {
            boolean sea = h.atSea();
            int by = ruled(h);
            if (sea && by >= 0) {
                int wage = lawOfNation.get(by)[0];
                if (h.coins >= wage) {
                    h.coins -= wage;
                } else {
                    h.unpaid++;
                }
            }
            leak(h);
            if (!sea) {
                return false;
            }
            h.daysToGo--;
            if (h.daysToGo > 0) {
                return false;
            }
            h.port = h.goal;
            h.goal = -1;
            int of = nationOfPort.get(h.port);
            if (of >= 0 && of != ruled(h)) {
                int duty = Math.min(h.coins, lawOfNation.get(of)[1] * h.allTons());
                h.coins -= duty;
                h.duties += duty;
            }
            return true;
        }

        List<Integer> goBy() {
            List<Integer> anew = new ArrayList<>();
            for (int s = 0; s < hulls.size(); s++) {
                if (dayOf(hulls.get(s))) {
                    anew.add(s);
                }
            }
            day++;
            return anew;
        }

        Hull leaked(Hull h, int days) {
            Hull then = h.copy();
            for (int d = 0; d < days; d++) {
                leak(then);
            }
            return then;
        }

        Hull with(Hull h, int good, int more) {
            Hull then = h.copy();
            then.put(good, Math.max(0, then.tons(good) + more));
            return then;
        }

        int coins() {
            return hulls.stream().mapToInt(h -> h.coins).sum();
        }
    }

    int status = 0;
    long top = 0;
    long bottom = 1;
    int fault = -1;
    int faultPlace = -1;
    private final StringBuilder tape = new StringBuilder();
    private final Row[] rows = new Row[4];
    private final List<Globe> marks = new ArrayList<>();
    private Globe globe = new Globe();
    private int[] lived;

    Globe globe() {
        return globe;
    }

    int tapeLength() {
        return tape.length();
    }

    /** The answer to a call (a boolean counts 1 or 0). */
    long call(String name, long... a) {
        switch (name) {
            case "status": return status;
            case "top": return top;
            case "bottom": return bottom;
            case "feed": return feed(a);
            case "fault": return a[0] == 0 ? fault : a[0] == 1 ? faultPlace : -1;
            default:
        }
        try {
            long answer = answer(name, a);
            status = 0;
            return answer;
        } catch (Refusal r) {
            status = r.status;
            return Set.of("tray", "write", "pour", "share", "pass", "rule", "war", "trade", "mean").contains(name) ? 0 : -1;
        }
    }

    private long feed(long[] a) {
        if (tape.length() + 20 > 900) {
            return -1;
        }
        for (long v : a) {
            for (int shift = 24; shift >= 0; shift -= 8) {
                tape.append((char) (v >> shift & 255));
            }
        }
        return tape.length();
    }

    private static int in(long v, int least, int most) {
        if (v < least || v > most) {
            throw new Refusal(1);
        }
        return (int) v;
    }

    private static void unless(boolean holds, int status) {
        if (!holds) {
            throw new Refusal(status);
        }
    }

    private Hull hull(long ship) {
        return globe.hulls.get(in(ship, 0, globe.hulls.size() - 1));
    }

    private int nationBy(long n) {
        return in(n, 0, globe.nations.size() - 1);
    }

    private int goodBy(long n) {
        return in(n, 0, globe.goods.size() - 1);
    }

    private int portBy(long n) {
        return in(n, 0, globe.ports.size() - 1);
    }

    private static long some(int v, int statusWithout) {
        unless(v >= 0, statusWithout);
        return v;
    }

    private static int set(Iterable<Integer> of) {
        int bits = 0;
        for (int i : of) {
            bits |= 1 << i;
        }
        return bits;
    }

    private void fraction(long part, long whole) {
        java.math.BigInteger common = java.math.BigInteger.valueOf(part).gcd(java.math.BigInteger.valueOf(whole));
        top = part / common.longValue();
        bottom = whole / common.longValue();
    }

    private long answer(String name, long[] a) {
        switch (name) {
            case "tray": return tray(a);
            case "write": return write(a);
            case "read": return row(a[0], a[1]).numbers[(int) a[1]];
            case "pour": return pour(a);
            case "world": return world(a[0]);
            case "voyages": return voyages(a[0]);
            case "told": return told(a[0]);
            case "nation": return nation(a);
            case "good": return globe.kindOfGood.get(goodBy(a[0]))[in(a[1], 0, 2)];
            case "portOf": return some(globe.nationOfPort.get(portBy(a[0])), 6);
            case "price": return some(globe.price(portBy(a[0]), goodBy(a[1])) - 1, 6) + 1;
            case "way": return way(a);
            case "ship": return ship(hull(a[0]), a[1]);
            case "aboard": return hull(a[0]).tons(goodBy(a[1]));
            default: return flags(name, a);
        }
    }

    private long tray(long[] a) {
        Row row = new Row();
        int tray = in(a[0], 0, 3);
        row.sort = in(a[1], 0, 3);
        row.numbers = new long[in(a[2], 0, 60)];
        rows[tray] = row;
        return 1;
    }

    private Row row(long tray, long lastPlace) {
        Row row = rows[in(tray, 0, 3)];
        unless(row != null, 2);
        unless(lastPlace >= 0 && lastPlace < row.numbers.length, 3);
        return row;
    }

    private static long cut(long v, int sort) {
        int lost = 64 - (8 << sort);
        return v << lost >> lost;
    }

    private long write(long[] a) {
        Row row = row(a[0], a[1]);
        row.numbers[(int) a[1]] = cut(a[2], row.sort);
        return 1;
    }

    private long pour(long[] a) {
        Row from = rows[in(a[0], 0, 3)];
        Row to = rows[in(a[2], 0, 3)];
        unless(a[1] >= 0 && a[3] >= 0 && a[4] >= 0, 1);
        unless(from != null && to != null, 2);
        unless(from.sort == to.sort, 8);
        unless(a[1] + a[4] <= from.numbers.length && a[3] + a[4] <= to.numbers.length, 3);
        long[] were = from.numbers.clone();
        for (int i = 0; i < a[4]; i++) {
            to.numbers[(int) a[3] + i] = were[(int) a[1] + i];
        }
        return 1;
    }

    private String tornOff(long n, int most) {
        String text = tape.substring(0, in(n, 0, Math.min(most, tape.length())));
        tape.setLength(0);
        fault = 0;
        faultPlace = -1;
        return text;
    }

    private Refusal noted(ModelText.Fault f) {
        fault = f.kind;
        faultPlace = f.place;
        return new Refusal(9);
    }

    private long world(long n) {
        String text = tornOff(n, 900);
        try {
            globe = new ModelText(text).world();
        } catch (ModelText.Fault f) {
            throw noted(f);
        }
        return globe.hulls.size();
    }

    private long voyages(long n) {
        String text = tornOff(n, 300);
        try {
            ModelText reader = new ModelText(text);
            globe.voyages = reader.voyages(globe);
            return reader.steps;
        } catch (ModelText.Fault f) {
            throw noted(f);
        }
    }

    private long told(long what) {
        int[] sizes = {globe.nations.size(), globe.goods.size(), globe.ports.size(), globe.ships.size(), globe.rule, globe.day};
        if (in(what, 0, 9) < sizes.length) {
            return sizes[(int) what];
        }
        TreeSet<Integer> sea = new TreeSet<>();
        TreeSet<Integer> lawless = new TreeSet<>();
        int tons = 0;
        for (int s = 0; s < globe.hulls.size(); s++) {
            Hull h = globe.hulls.get(s);
            tons += h.allTons();
            if (h.atSea()) {
                sea.add(s);
            }
            if (globe.ruled(h) < 0) {
                lawless.add(s);
            }
        }
        int[] rest = {set(sea), set(lawless), tons, globe.coins()};
        return rest[(int) what - sizes.length];
    }

    private long nation(long[] a) {
        int n = nationBy(a[0]);
        if (in(a[1], 0, 3) < 3) {
            return globe.lawOfNation.get(n)[(int) a[1]];
        }
        TreeSet<Integer> foes = new TreeSet<>();
        for (int o = 0; o < globe.nations.size(); o++) {
            if (globe.atWar(n, o)) {
                foes.add(o);
            }
        }
        return set(foes);
    }

    private long way(long[] a) {
        int p = portBy(a[0]);
        int q = portBy(a[1]);
        unless(p != q, 1);
        unless(globe.way(p, q) > 0, 6);
        return globe.way(p, q);
    }

    private static long ship(Hull h, long what) {
        int[] of = {h.port, h.goal, h.daysToGo, h.hold, h.coins, h.allTons(), h.unpaid, h.duties};
        return some(of[in(what, 0, 7)], 6);
    }

    private long flags(String name, long[] a) {
        switch (name) {
            case "weight": return globe.weight(hull(a[0]), nationBy(a[1]), globe.rule);
            case "weightBy": return globe.weight(hull(a[0]), nationBy(a[1]), in(a[2], 0, 2));
            case "captains": return set(globe.captains(hull(a[0])));
            case "ruled": return some(globe.ruled(hull(a[0])), 6);
            case "ruledBy": return some(globe.ruled(hull(a[0]), in(a[1], 0, 2)), 6);
            case "share": return share(a);
            case "lawful": return globe.lawful(hull(a[0]), in(a[1], 0, 7)) ? 1 : 0;
            case "deeds": return deeds(hull(a[0]));
            case "board": return board(a);
            case "boarders": return boarders((int) a[0], hull(a[0]));
            case "greatest": return greatest(nationBy(a[0]));
            default: return doing(name, a);
        }
    }

    private long share(long[] a) {
        Hull h = hull(a[0]);
        int n = nationBy(a[1]);
        int all = 0;
        for (int o = 0; o < globe.nations.size(); o++) {
            all += globe.weight(h, o, globe.rule);
        }
        unless(all > 0, 6);
        fraction(globe.weight(h, n, globe.rule), all);
        return 1;
    }

    private long deeds(Hull h) {
        long bits = 0;
        for (int d = 0; d < 8; d++) {
            bits += globe.lawful(h, d) ? 1L << d : 0;
        }
        return bits;
    }

    private boolean mayBoard(Hull h, Hull other) {
        int one = globe.ruled(h);
        int two = globe.ruled(other);
        return one >= 0 && two >= 0 && globe.atWar(one, two);
    }

    private long board(long[] a) {
        Hull h = hull(a[0]);
        Hull other = hull(a[1]);
        unless(h != other, 1);
        return mayBoard(h, other) ? 1 : 0;
    }

    private long boarders(int ship, Hull h) {
        TreeSet<Integer> who = new TreeSet<>();
        for (int s = 0; s < globe.hulls.size(); s++) {
            if (s != ship && mayBoard(globe.hulls.get(s), h)) {
                who.add(s);
            }
        }
        return set(who);
    }

    private long greatest(int nation) {
        int most = globe.hulls.stream().mapToInt(h -> globe.weight(h, nation, 0)).max().orElse(0);
        unless(most > 0, 6);
        int s = 0;
        while (globe.weight(globe.hulls.get(s), nation, 0) < most) {
            s++;
        }
        return s;
    }

    private long doing(String name, long[] a) {
        switch (name) {
            case "buy":
            case "sell":
            case "dump": return lade(name, hull(a[0]), goodBy(a[1]), in(a[2], 1, 60));
            case "sail": return sail(hull(a[0]), portBy(a[1]));
            case "day": return day(in(a[0], 1, 99));
            case "pass": return pass(a);
            case "rule": globe.rule = in(a[0], 0, 2); return 1;
            case "war": return war(a);
            case "trade": return trade(portBy(a[0]) + " " + goodBy(a[1]), in(a[2], 0, 99));
            case "pay": return pay(hull(a[0]), in(a[1], -9999, 9999));
            default: return wouldBe(name, a);
        }
    }

    private long lade(String how, Hull h, int good, int tons) {
        switch (how) {
            case "buy": globe.buy(h, good, tons); break;
            case "sell": globe.sell(h, good, tons); break;
            default: globe.dump(h, good, tons);
        }
        return h.tons(good);
    }

    private long sail(Hull h, int port) {
        globe.sail(h, port);
        return h.daysToGo;
    }

    private long day(int many) {
        unless(globe.day + many <= 9999, 4);
        TreeSet<Integer> anew = new TreeSet<>();
        for (int d = 0; d < many; d++) {
            anew.addAll(globe.goBy());
        }
        return set(anew);
    }

    private long pass(long[] a) {
        Hull from = hull(a[0]);
        Hull to = hull(a[1]);
        unless(from != to, 1);
        int good = goodBy(a[2]);
        int tons = in(a[3], 1, 60);
        unless(!from.atSea() && !to.atSea() && from.port == to.port, 7);
        unless(from.tons(good) >= tons && to.allTons() + tons <= to.hold, 7);
        from.put(good, from.tons(good) - tons);
        to.put(good, to.tons(good) + tons);
        return 1;
    }

    private long war(long[] a) {
        int one = nationBy(a[0]);
        int two = nationBy(a[1]);
        unless(one != two, 1);
        unless(globe.atWar(one, two) != (a[2] != 0), 7);
        if (a[2] != 0) {
            globe.wars.add(Globe.pair(one, two));
        } else {
            globe.wars.remove(Globe.pair(one, two));
        }
        return 1;
    }

    private long trade(String where, int price) {
        globe.prices.put(where, price);
        return 1;
    }

    private static long pay(Hull h, int coins) {
        unless(h.coins + coins >= 0 && h.coins + coins <= 9999, 7);
        h.coins += coins;
        return h.coins;
    }

    private long wouldBe(String name, long[] a) {
        switch (name) {
            case "flagIn": return some(globe.ruled(globe.leaked(hull(a[0]), in(a[1], 0, 99))), 6);
            case "tonsIn": return globe.leaked(hull(a[0]), in(a[1], 0, 99)).allTons();
            case "turns": return turns(hull(a[0]));
            case "flags": return flagsSeen(hull(a[0]), in(a[1], 0, 99));
            case "wages": return wages(hull(a[0]), in(a[1], 0, 99));
            case "stowaway": return stowaway(hull(a[0]))[0];
            case "stowawayGood": return stowaway(hull(a[0]))[1];
            case "guard": return guard(hull(a[0]), in(a[1], 1, 60));
            case "passFor": return passFor(hull(a[0]), nationBy(a[1]))[0];
            case "passGood": return some(passFor(hull(a[0]), nationBy(a[1]))[1], 6);
            case "peace": return peace(hull(a[0]))[1];
            case "peaceCost": return peace(hull(a[0]))[0];
            default: return voyaging(name, a);
        }
    }

    private long turns(Hull h) {
        for (int d = 1; d <= 99; d++) {
            if (!globe.captains(globe.leaked(h, d)).equals(globe.captains(h))) {
                return d;
            }
        }
        throw new Refusal(6);
    }

    private List<Integer> log(Hull h, int days) {
        List<Integer> log = new ArrayList<>();
        for (int d = 0; d < days; d++) {
            log.add(globe.ruled(globe.leaked(h, d)));
        }
        return log;
    }

    private long flagsSeen(Hull h, int days) {
        List<Integer> log = log(h, days + 1);
        int seen = 0;
        for (int d = 0; d <= days; d++) {
            if (log.get(d) >= 0 && (d == 0 || !log.get(d).equals(log.get(d - 1)))) {
                seen++;
            }
        }
        return seen;
    }

    private long wages(Hull h, int days) {
        return log(h, days).stream().filter(n -> n >= 0).mapToInt(n -> globe.lawOfNation.get(n)[0]).sum();
    }

    /** The first of all choices (amount, number) with the least amount. */
    private static int[] least(List<int[]> choices) {
        unless(!choices.isEmpty(), 6);
        int[] best = choices.get(0);
        for (int[] c : choices) {
            best = c[0] < best[0] ? c : best;
        }
        return best;
    }

    private int[] stowaway(Hull h) {
        List<int[]> choices = new ArrayList<>();
        for (int g = 0; g < globe.goods.size(); g++) {
            for (int t = 1; t <= 60; t++) {
                if (!globe.captains(globe.with(h, g, t)).equals(globe.captains(h))) {
                    choices.add(new int[] {t, g});
                }
            }
        }
        return least(choices);
    }

    private long guard(Hull h, int tons) {
        for (int g = 0; g < globe.goods.size(); g++) {
            for (int by : new int[] {tons, -tons}) {
                if (!globe.captains(globe.with(h, g, by)).equals(globe.captains(h))) {
                    return 0;
                }
            }
        }
        return 1;
    }

    private int[] passFor(Hull h, int nation) {
        List<int[]> choices = new ArrayList<>();
        if (globe.ruled(h) == nation) {
            choices.add(new int[] {0, -1});
        }
        for (int g = 0; g < globe.goods.size(); g++) {
            for (int t = 1; t <= h.hold - h.allTons(); t++) {
                if (globe.ruled(globe.with(h, g, t)) == nation) {
                    choices.add(new int[] {t, g});
                }
            }
        }
        return least(choices);
    }

    private int[] peace(Hull h) {
        unless(!h.atSea(), 7);
        int room = h.hold - h.allTons();
        List<int[]> choices = new ArrayList<>();
        for (int g = 0; g < globe.goods.size(); g++) {
            int flag = globe.ruled(globe.with(h, g, room));
            boolean calm = flag < 0 || globe.wars.stream().noneMatch(w -> Arrays.asList(w.split("-")).contains("" + flag));
            if (globe.price(h.port, g) > 0 && calm) {
                choices.add(new int[] {room * globe.price(h.port, g), g});
            }
        }
        return least(choices);
    }

    private long voyaging(String name, long[] a) {
        switch (name) {
            case "voyage": return voyage(hull(a[0]), in(a[1], 1, 3))[0];
            case "voyageAt": return voyageAt(a);
            case "soonest": return soonest(portBy(a[0]), portBy(a[1]));
            case "next": return next(portBy(a[0]), portBy(a[1]));
            case "reach": return reach(portBy(a[0]));
            case "best": return best(portBy(a[0]), portBy(a[1]));
            default: return logging(name, a);
        }
    }

    private long voyageAt(long[] a) {
        Hull h = hull(a[0]);
        int legs = in(a[1], 1, 3);
        int what = in(a[2], 0, 1);
        return voyage(h, legs)[1 + what];
    }

    private void sellAll(Hull h) {
        for (int g = 0; g < globe.goods.size(); g++) {
            if (h.tons(g) > 0 && globe.price(h.port, g) > 0) {
                globe.sell(h, g, h.tons(g));
            }
        }
    }

    /** The ship behind a leg, or null if that can't be. */
    private Hull leg(Hull from, int port, int good) {
        Hull h = from.copy();
        sellAll(h);
        if (good >= 0) {
            int tons = globe.price(h.port, good) == 0 ? 0 : Math.min(h.hold - h.allTons(), h.coins / globe.price(h.port, good));
            if (tons == 0) {
                return null;
            }
            globe.buy(h, good, tons);
        }
        globe.sail(h, port);
        while (h.atSea()) {
            globe.dayOf(h);
        }
        return h;
    }

    /** Coins, first port, first good. */
    private int[] voyage(Hull from, int legs) {
        unless(!from.atSea(), 7);
        int[] best = null;
        for (int p = 0; p < globe.ports.size(); p++) {
            if (p == from.port || globe.way(from.port, p) == 0) {
                continue;
            }
            for (int i = 0; i <= globe.goods.size(); i++) {
                int good = i == globe.goods.size() ? -1 : i;
                Hull h = leg(from, p, good);
                if (h == null) {
                    continue;
                }
                if (legs == 1) {
                    sellAll(h);
                }
                int coins = legs == 1 ? h.coins : voyage(h, legs - 1)[0];
                if (best == null || coins > best[0]) {
                    best = new int[] {coins, p, good};
                }
            }
        }
        unless(best != null, 6);
        return best;
    }

    /** The days from port to port by any row of different ports; -1 if there is none. */
    private int days(int a, int b, Set<Integer> been) {
        if (a == b) {
            return 0;
        }
        int fewest = -1;
        Set<Integer> now = new TreeSet<>(been);
        now.add(a);
        for (int p = 0; p < globe.ports.size(); p++) {
            if (globe.way(a, p) > 0 && !now.contains(p)) {
                int rest = days(p, b, now);
                int all = rest + globe.way(a, p);
                fewest = rest >= 0 && (fewest < 0 || all < fewest) ? all : fewest;
            }
        }
        return fewest;
    }

    private long soonest(int a, int b) {
        return some(days(a, b, Set.of()), 6);
    }

    private long next(int a, int b) {
        unless(a != b, 1);
        long all = soonest(a, b);
        for (int p = 0; p < globe.ports.size(); p++) {
            int rest = days(p, b, Set.of());
            if (globe.way(a, p) > 0 && rest >= 0 && globe.way(a, p) + rest == all) {
                return p;
            }
        }
        throw new IllegalStateException("a way without a first port");
    }

    private long reach(int a) {
        TreeSet<Integer> all = new TreeSet<>();
        for (int p = 0; p < globe.ports.size(); p++) {
            if (days(a, p, Set.of()) >= 0) {
                all.add(p);
            }
        }
        return set(all);
    }

    private long best(int a, int b) {
        unless(a != b, 1);
        List<int[]> losses = new ArrayList<>();
        for (int g = 0; g < globe.goods.size(); g++) {
            int gain = globe.price(b, g) - globe.price(a, g);
            if (globe.price(a, g) > 0 && globe.price(b, g) > 0 && gain > 0) {
                losses.add(new int[] {-gain, g});
            }
        }
        return least(losses)[1];
    }

    private long logging(String name, long[] a) {
        switch (name) {
            case "log": return waysOf(a).size();
            case "sure": return sure(waysOf(a));
            case "copyLog": return copyLog(a);
            default: return living(name, a);
        }
    }

    /** The sets of goods of all ways. */
    private List<Integer> waysOf(long[] a) {
        in(a[0], 0, 3);
        int n = in(a[1], 1, 20);
        int h = in(a[2], 2, 60);
        Row row = row(a[0], n - 1);
        List<Integer> seen = new ArrayList<>();
        for (int d = 0; d < n; d++) {
            unless(row.numbers[d] >= -1 && row.numbers[d] < globe.nations.size(), 5);
            seen.add((int) row.numbers[d]);
        }
        List<Integer> ways = new ArrayList<>();
        for (int g = 0; g < globe.goods.size(); g++) {
            for (int k = g + 1; k < globe.goods.size(); k++) {
                for (int x = 1; x < h; x++) {
                    for (int y = 1; x + y <= h; y++) {
                        Hull hull = new Hull();
                        hull.put(g, x);
                        hull.put(k, y);
                        if (shows(hull, seen)) {
                            ways.add(1 << g | 1 << k);
                        }
                    }
                }
            }
        }
        return ways;
    }

    private boolean shows(Hull h, List<Integer> seen) {
        for (int flag : seen) {
            if (globe.ruled(h) != flag) {
                return false;
            }
            globe.leak(h);
        }
        return true;
    }

    private static long sure(List<Integer> ways) {
        unless(!ways.isEmpty(), 6);
        return ways.stream().reduce((x, y) -> x & y).get();
    }

    private long copyLog(long[] a) {
        Hull h = hull(a[0]);
        in(a[1], 0, 3);
        int n = in(a[2], 1, 20);
        Row row = row(a[1], n - 1);
        for (int d = 0; d < n; d++) {
            row.numbers[d] = log(h, n).get(d);
        }
        return n;
    }

    private long living(String name, long[] a) {
        switch (name) {
            case "live": return live(in(a[0], 0, 9999));
            case "lived": return lived(in(a[0], 0, 4));
            case "mean": return mean(in(a[0], 0, 9999), in(a[1], 1, 20));
            case "mark": return mark();
            case "undo": return undo();
            default: throw new IllegalArgumentException(name);
        }
    }

    private long live(int seed) {
        unless(globe.voyages != null, 6);
        ModelLife life = new ModelLife(globe, seed);
        lived = life.tally;
        return life.done;
    }

    private long lived(int what) {
        unless(lived != null, 6);
        return lived[what];
    }

    private long mean(int seed, int many) {
        in(seed + many - 1, 0, 9999);
        unless(globe.voyages != null, 6);
        long all = 0;
        for (int i = 0; i < many; i++) {
            Globe other = globe.copy();
            new ModelLife(other, seed + i);
            all += other.coins();
        }
        fraction(all, many);
        return 1;
    }

    private long mark() {
        unless(marks.size() < 3, 4);
        marks.add(globe.copy());
        return marks.size();
    }

    private long undo() {
        unless(!marks.isEmpty(), 6);
        globe = marks.remove(marks.size() - 1);
        return marks.size();
    }
}
