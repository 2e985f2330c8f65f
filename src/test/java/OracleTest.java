import java.util.List;

/** Many worlds by chance: each answer again, found in the plainest way by other calls or by another program. */
public final class OracleTest {
    public static void main(String[] args) {
        for (int seed = 0; seed < 400; seed++) {
            texts(seed);
        }
        for (int seed = 0; seed < 150; seed++) {
            outlook(seed);
            turning(seed);
            ways(seed);
            logs(seed);
            lives(seed);
        }
        for (int seed = 0; seed < 60; seed++) {
            voyage(seed);
        }
        Sea.end("OracleTest");
    }

    // ---- texts

    private static void texts(int seed) {
        RandomTexts r = new RandomTexts(seed);
        Sea s = new Sea("texts " + seed);
        String text = r.world(6, 8, 6, 4);
        TextOracle o = new TextOracle();
        o.world(text);
        s.fine("world", s.world(text), o.counts.get("ship"));
        compare(s, o);
        String plan = r.voyages(r.upTo(34));
        sameVoyages(s, o, plan);
        for (int i = 0; i < 12; i++) {
            sameVoyages(s, o, r.spoilt(plan));
        }
        for (int i = 0; i < 25; i++) {
            String bad = r.spoilt(text);
            if (bad.length() > 900) {
                continue;
            }
            TextOracle p = new TextOracle();
            int kind = 0;
            int place = -1;
            try {
                p.world(bad);
            } catch (TextOracle.Fault f) {
                kind = f.kind;
                place = f.place;
            }
            s.due("world " + bad, s.world(bad), kind == 0 ? p.counts.get("ship") : -1);
            s.due("status " + bad, s.x.status(), kind == 0 ? 0 : 9);
            s.due("fault of " + bad, s.x.fault(0), kind);
            s.due("place in " + bad, s.x.fault(1), place);
            if (kind == 0) {
                compare(s, p);
            }
        }
    }

    private static void sameVoyages(Sea s, TextOracle o, String plan) {
        if (plan.length() > 300) {
            return;
        }
        int kind = 0;
        int place = -1;
        int steps = 0;
        try {
            steps = count(o.voyages(plan));
        } catch (TextOracle.Fault f) {
            kind = f.kind;
            place = f.place;
        }
        s.due("voyages " + plan, s.voyages(plan), kind == 0 ? steps : -1);
        s.due("fault of " + plan, s.x.fault(0), kind);
        s.due("place in " + plan, s.x.fault(1), place);
    }

    private static int count(List<TextOracle.Step> steps) {
        int sum = 0;
        for (TextOracle.Step s : steps) {
            sum += 1 + count(s.body);
        }
        return sum;
    }

    private static void compare(Sea s, TextOracle o) {
        int nations = o.counts.get("nation");
        int goods = o.counts.get("good");
        int ports = o.counts.get("port");
        int ships = o.counts.get("ship");
        s.due("nations", s.x.told(0), nations);
        s.due("goods", s.x.told(1), goods);
        s.due("ports", s.x.told(2), ports);
        s.due("ships", s.x.told(3), ships);
        s.due("rule", s.x.told(4), o.factOf(0, "rule"));
        for (int n = 0; n < nations; n++) {
            for (int w = 0; w < 4; w++) {
                s.due("nation", s.x.nation(n, w), o.factOf(0, "nation", n, w));
            }
        }
        for (int g = 0; g < goods; g++) {
            for (int w = 0; w < 3; w++) {
                s.due("good", s.x.good(g, w), o.factOf(0, "good", g, w));
            }
        }
        for (int p = 0; p < ports; p++) {
            s.due("portOf", s.x.portOf(p), o.factOf(-1, "portOf", p));
            for (int g = 0; g < goods; g++) {
                s.due("price", s.x.price(p, g), o.factOf(-1, "price", p, g));
            }
            for (int q = 0; q < ports; q++) {
                s.due("way", s.x.way(p, q), o.factOf(-1, "way", p, q));
            }
        }
        for (int v = 0; v < ships; v++) {
            for (int w = 0; w < 8; w++) {
                s.due("ship", s.x.ship(v, w), o.factOf(w == 1 ? -1 : 0, "ship", v, w));
            }
            for (int g = 0; g < goods; g++) {
                s.due("aboard", s.x.aboard(v, g), o.factOf(0, "aboard", v, g));
            }
        }
    }

    // ---- a world by chance, with things aboard

    private static Sea sea(String name, int seed, RandomTexts r) {
        Sea s = new Sea(name + " " + seed);
        s.due("world", s.world(r.world(4, 5, 4, 3)) > 0, true);
        for (int v = 0; v < s.x.told(3); v++) {
            for (int i = 0; i < 4; i++) {
                s.x.buy(v, r.upTo(s.x.told(1) - 1), 1 + r.upTo(6));
            }
        }
        return s;
    }

    private static int[] load(Sea s, int ship) {
        int[] tons = new int[s.x.told(1)];
        for (int g = 0; g < tons.length; g++) {
            tons[g] = s.x.aboard(ship, g);
        }
        return tons;
    }

    private static int captains(Sea s, int[] tons) {
        int best = 0;
        int set = 0;
        for (int n = 0; n < s.x.told(0); n++) {
            int w = 0;
            for (int g = 0; g < tons.length; g++) {
                if (s.x.good(g, 0) == n) {
                    int[] by = {tons[g], Math.min(1, tons[g]), tons[g] * s.x.good(g, 1)};
                    w += by[s.x.told(4)];
                }
            }
            if (w > best) {
                best = w;
                set = 1 << n;
            } else if (w == best && w > 0) {
                set += 1 << n;
            }
        }
        return set;
    }

    private static int flag(int captains) {
        return Integer.bitCount(captains) == 1 ? Integer.numberOfTrailingZeros(captains) : -1;
    }

    private static int captainsWith(Sea s, int ship, int good, int more) {
        int[] tons = load(s, ship);
        tons[good] = Math.max(0, tons[good] + more);
        return captains(s, tons);
    }

    // ---- what would be, by letting days go by and taking them back

    private static void outlook(int seed) {
        RandomTexts r = new RandomTexts(1000 + seed);
        Sea s = sea("outlook", seed, r);
        int days = 25;
        for (int v = 0; v < s.x.told(3); v++) {
            int[] flags = new int[days];
            int[] tons = new int[days];
            int[] sets = new int[days];
            s.x.mark();
            for (int d = 0; d < days; d++) {
                flags[d] = s.x.ruled(v);
                tons[d] = s.x.ship(v, 5);
                sets[d] = s.x.captains(v);
                s.due("captains", sets[d], captains(s, load(s, v)));
                s.x.day(1);
            }
            s.x.undo();
            int begun = 0;
            int wages = 0;
            int turns = -1;
            for (int d = 0; d < days; d++) {
                s.due("flagIn " + d, s.x.flagIn(v, d), flags[d]);
                s.due("tonsIn " + d, s.x.tonsIn(v, d), tons[d]);
                begun += flags[d] >= 0 && (d == 0 || flags[d - 1] != flags[d]) ? 1 : 0;
                s.due("flags " + d, s.x.flags(v, d), begun);
                s.due("wages " + d, s.x.wages(v, d), wages);
                wages += flags[d] >= 0 ? s.x.nation(flags[d], 0) : 0;
                turns = turns < 0 && sets[d] != sets[0] ? d : turns;
            }
            int told = s.x.turns(v);
            s.due("turns", told >= days ? -1 : told, turns);
        }
    }

    // ---- loads that would turn a ship

    private static void turning(int seed) {
        RandomTexts r = new RandomTexts(2000 + seed);
        Sea s = sea("turning", seed, r);
        int goods = s.x.told(1);
        for (int v = 0; v < s.x.told(3); v++) {
            int now = captains(s, load(s, v));
            int fewest = 99;
            int which = -1;
            for (int g = goods - 1; g >= 0; g--) {
                for (int t = 60; t > 0; t--) {
                    if (captainsWith(s, v, g, t) != now && t <= fewest) {
                        fewest = t;
                        which = g;
                    }
                }
            }
            s.due("stowaway", s.x.stowaway(v), fewest == 99 ? -1 : fewest);
            s.due("stowawayGood", s.x.stowawayGood(v), which);
            for (int t = 1; t <= 60; t += 1 + r.upTo(5)) {
                boolean safe = true;
                for (int g = 0; g < goods; g++) {
                    safe &= captainsWith(s, v, g, t) == now && captainsWith(s, v, g, -t) == now;
                }
                s.due("guard " + t, s.x.guard(v, t), safe ? 1 : 0);
            }
            for (int n = 0; n < s.x.told(0); n++) {
                pass(s, v, n);
            }
            peace(s, v);
        }
    }

    private static void pass(Sea s, int v, int n) {
        int fewest = flag(captains(s, load(s, v))) == n ? 0 : 99;
        int which = -1;
        int room = s.x.ship(v, 3) - s.x.ship(v, 5);
        for (int g = 0; g < s.x.told(1); g++) {
            for (int t = 1; t <= room && t < fewest; t++) {
                if (flag(captainsWith(s, v, g, t)) == n) {
                    fewest = t;
                    which = g;
                }
            }
        }
        s.due("passFor", s.x.passFor(v, n), fewest == 99 ? -1 : fewest);
        s.due("passGood", s.x.passGood(v, n), which);
    }

    private static void peace(Sea s, int v) {
        int room = s.x.ship(v, 3) - s.x.ship(v, 5);
        int least = Integer.MAX_VALUE;
        int which = -1;
        for (int g = 0; g < s.x.told(1); g++) {
            int price = s.x.price(s.x.ship(v, 0), g);
            int flag = flag(captainsWith(s, v, g, room));
            if (price > 0 && (flag < 0 || s.x.nation(flag, 3) == 0) && room * price < least) {
                least = room * price;
                which = g;
            }
        }
        s.due("peace", s.x.peace(v), which);
        s.due("peaceCost", s.x.peaceCost(v), which < 0 ? -1 : least);
    }

    // ---- ways between ports

    private static void ways(int seed) {
        RandomTexts r = new RandomTexts(3000 + seed);
        Sea s = new Sea("ways " + seed);
        s.due("world", s.world(r.world(1, 2, 6, 1)), 1);
        int ports = s.x.told(2);
        int[][] far = new int[ports][ports];
        for (int a = 0; a < ports; a++) {
            for (int b = 0; b < ports; b++) {
                int w = s.x.way(a, b);
                far[a][b] = a == b ? 0 : w < 0 ? 1000 : w;
            }
        }
        for (int k = 0; k < ports; k++) {
            for (int a = 0; a < ports; a++) {
                for (int b = 0; b < ports; b++) {
                    far[a][b] = Math.min(far[a][b], far[a][k] + far[k][b]);
                }
            }
        }
        for (int a = 0; a < ports; a++) {
            int reach = 0;
            for (int b = 0; b < ports; b++) {
                boolean can = far[a][b] < 1000;
                reach += can ? 1 << b : 0;
                s.due("soonest", s.x.soonest(a, b), can ? far[a][b] : -1);
                int next = -1;
                for (int p = ports - 1; p >= 0 && can && a != b; p--) {
                    next = s.x.way(a, p) > 0 && s.x.way(a, p) + far[p][b] == far[a][b] ? p : next;
                }
                s.due("next", s.x.next(a, b), next);
            }
            s.due("reach", s.x.reach(a), reach);
        }
    }

    // ---- logs

    private static void logs(int seed) {
        RandomTexts r = new RandomTexts(4000 + seed);
        Sea s = sea("logs", seed, r);
        int n = 1 + r.upTo(5);
        int h = 2 + r.upTo(16);
        int goods = s.x.told(1);
        int[] seen = new int[n];
        s.x.tray(0, r.upTo(3), n);
        if (r.upTo(2) == 0) {
            s.x.copyLog(0, 0, n);
        } else {
            s.x.write(0, 0, r.upTo(s.x.told(0)) - 1);
            for (int d = 1; d < n; d++) {
                s.x.write(0, d, r.upTo(2) > 0 ? s.x.read(0, d - 1) : r.upTo(s.x.told(0)) - 1);
            }
        }
        for (int d = 0; d < n; d++) {
            seen[d] = (int) s.x.read(0, d);
        }
        int ways = 0;
        int sure = 255;
        for (int a = 0; a < goods; a++) {
            for (int b = a + 1; b < goods; b++) {
                for (int x = 1; x <= h; x++) {
                    for (int y = 1; y <= h - x; y++) {
                        boolean fits = true;
                        for (int d = 0; d < n && fits; d++) {
                            int[] tons = new int[goods];
                            tons[a] = Math.max(0, x - d * s.x.good(a, 2));
                            tons[b] = Math.max(0, y - d * s.x.good(b, 2));
                            fits = flag(captains(s, tons)) == seen[d];
                        }
                        ways += fits ? 1 : 0;
                        sure &= fits ? 1 << a | 1 << b : 255;
                    }
                }
            }
        }
        s.due("log", s.x.log(0, n, h), ways);
        s.due("sure", s.x.sure(0, n, h), ways == 0 ? -1 : sure);
    }

    // ---- voyages by doing them, with a mark for each leg

    private static void voyage(int seed) {
        RandomTexts r = new RandomTexts(5000 + seed);
        Sea s = sea("voyage", seed, r);
        for (int v = 0; v < s.x.told(3); v++) {
            for (int legs = 1; legs <= 3; legs++) {
                int[] first = {-1, -1};
                s.x.mark();
                s.x.undo();
                int most = most(s, v, legs, first);
                s.due("voyage " + legs, s.x.voyage(v, legs), most);
                s.due("port " + legs, s.x.voyageAt(v, legs, 0), first[0]);
                s.due("good " + legs, s.x.voyageAt(v, legs, 1), first[1]);
                s.due("status", s.x.status(), most < 0 ? 6 : 0);
            }
        }
    }

    private static void sellAll(Sea s, int v) {
        for (int g = 0; g < s.x.told(1); g++) {
            if (s.x.aboard(v, g) > 0) {
                s.x.sell(v, g, s.x.aboard(v, g));
            }
        }
    }

    private static int most(Sea s, int v, int legs, int[] first) {
        int best = -1;
        int goods = s.x.told(1);
        for (int p = 0; p < s.x.told(2); p++) {
            for (int g = 0; g <= goods; g++) {
                s.x.mark();
                sellAll(s, v);
                int bought = g == goods ? 0 : -1;
                for (int t = 60; t > 0 && g < goods && bought < 0; t--) {
                    bought = s.x.buy(v, g, t);
                }
                int days = bought < 0 ? -1 : s.x.sail(v, p);
                if (days > 0) {
                    s.x.day(days);
                    int coins;
                    if (legs > 1) {
                        coins = most(s, v, legs - 1, new int[2]);
                    } else {
                        sellAll(s, v);
                        coins = s.x.ship(v, 4);
                    }
                    if (coins > best) {
                        best = coins;
                        first[0] = p;
                        first[1] = g == goods ? -1 : g;
                    }
                }
                s.x.undo();
            }
        }
        return best;
    }

    // ---- lives, by doing step after step

    private static final class Enough extends RuntimeException {
        private static final long serialVersionUID = 1;
    }

    private static long draw;
    private static int done;
    private static int[] tally;

    private static void lives(int seed) {
        RandomTexts r = new RandomTexts(6000 + seed);
        String text = r.world(3, 4, 4, 3);
        TextOracle o = new TextOracle();
        o.world(text);
        Sea s = new Sea("lives " + seed);
        s.world(text);
        for (int i = 0; i < 20; i++) {
            String plan = r.voyages(4 + r.upTo(10));
            if (plan.length() > 300) {
                continue;
            }
            List<TextOracle.Step> steps;
            try {
                steps = o.voyages(plan);
            } catch (TextOracle.Fault f) {
                continue;
            }
            s.voyages(plan);
            int by = r.upTo(9999);
            s.x.mark();
            draw = by;
            done = 0;
            tally = new int[5];
            try {
                walk(s, steps);
            } catch (Enough e) {
                s.due("it has ended", true, true);
            }
            String due = s.all();
            int coins = s.x.told(9);
            s.x.undo();
            s.fine("mean", s.x.mean(by, 1));
            s.fraction("mean", coins, 1);
            s.fine("live " + plan, s.x.live(by), done);
            s.same(plan, s.all(), due);
            for (int w = 0; w < 5; w++) {
                s.due("lived " + w + " " + plan, s.x.lived(w), tally[w]);
            }
        }
    }

    private static void walk(Sea s, List<TextOracle.Step> steps) {
        for (TextOracle.Step t : steps) {
            if (done == 300) {
                tally[4] = 1;
                throw new Enough();
            }
            done++;
            int coins = s.x.ship(t.ship, 4);
            switch (t.act) {
                case "stop": throw new Enough();
                case "loop": for (int i = 0; i < t.number; i++) { walk(s, t.body); } break;
                case "when ruled": walkIf(s, t, s.x.ruled(t.ship) == t.thing); break;
                case "when in": walkIf(s, t, s.x.ship(t.ship, 0) == t.thing); break;
                case "when <": walkIf(s, t, coins < t.number); break;
                case "when >": walkIf(s, t, coins > t.number); break;
                case "when =": walkIf(s, t, coins == t.number); break;
                default: tally[0] += act(s, t) ? 0 : 1;
            }
        }
    }

    private static void walkIf(Sea s, TextOracle.Step t, boolean holds) {
        if (holds) {
            walk(s, t.body);
        }
    }

    private static boolean act(Sea s, TextOracle.Step t) {
        switch (t.act) {
            case "day":
                if (s.x.told(5) + t.number > 9999) {
                    return false;
                }
                for (int d = 0; d < t.number; d++) {
                    tally[3] += Integer.bitCount(s.x.day(1));
                }
                tally[1] += t.number;
                return true;
            case "buy":
                boolean bought = s.x.buy(t.ship, t.thing, t.number) >= 0;
                tally[2] += bought ? t.number : 0;
                return bought;
            case "sell": return s.x.sell(t.ship, t.thing, t.number) >= 0;
            case "dump": return s.x.dump(t.ship, t.thing, t.number) >= 0;
            case "sail": return s.x.sail(t.ship, t.thing) >= 0;
            default:
                draw = (draw * 3023 + 11251) % 65536;
                return s.x.sail(t.ship, (int) (draw / 8 % s.x.told(2))) >= 0;
        }
    }
}
