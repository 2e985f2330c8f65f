import java.util.ArrayList;
import java.util.List;
import java.util.Random;

/** Worlds, voyages and arguments by chance for ModelTest: small numbers, much aboard, many ways, so that ties and turns come often. */
final class ModelWorlds {
    private static final String[] BITS = {" ", ";", "x", "day 1;", " nation ", "9", "99999", "0", "#", "\n", "end;", " of ", "rule 1;", "abcdefghi",
        "abcdefgh", " 0", "<", "stop;", "\u00e9", "A", "loop 2;", "end", "\t", " 10000", " 0003", "=", " day"};

    private final Random random;
    private final List<String> nations = new ArrayList<>();
    private final List<String> goods = new ArrayList<>();
    private final List<String> ports = new ArrayList<>();
    private final List<String> ships = new ArrayList<>();

    ModelWorlds(Random random) {
        this.random = random;
    }

    private int from(int least, int most) {
        return least + random.nextInt(most - least + 1);
    }

    private boolean oneIn(int n) {
        return random.nextInt(n) == 0;
    }

    private static String one(Random r, List<String> of) {
        return of.isEmpty() ? "q" : of.get(r.nextInt(of.size()));
    }

    private String one(List<String> of) {
        return one(random, of);
    }

    private String name(char first, List<String> of) {
        String n = "" + first + (char) ('a' + of.size());
        of.add(n);
        return n;
    }

    private String maybe(String word, int least, int most) {
        return oneIn(2) ? " " + word + " " + from(least, most) : "";
    }

    String world() {
        boolean great = oneIn(6);
        StringBuilder s = new StringBuilder();
        for (int i = from(oneIn(9) ? 0 : 1, great ? 6 : 4); i > 0; i--) {
            s.append("nation ").append(name('a', nations)).append(maybe("wage", 0, 9)).append(maybe("duty", 0, 3));
            s.append(maybe("deeds", 0, 255)).append(";");
        }
        for (int i = from(1, great ? 8 : 5); i > 0 && !nations.isEmpty(); i--) {
            s.append("good ").append(name('e', goods)).append(" of ").append(one(nations)).append(" worth ").append(from(1, oneIn(4) ? 99 : 5));
            s.append(maybe("leaks", 0, oneIn(3) ? 9 : 3)).append(";");
        }
        for (int i = from(1, great ? 6 : 4); i > 0; i--) {
            s.append("port ").append(name('k', ports)).append(oneIn(2) && !nations.isEmpty() ? " of " + one(nations) : "").append(";");
        }
        for (int i = from(1, great ? 4 : 3); i > 0; i--) {
            s.append("ship ").append(name('s', ships)).append(" at ").append(one(ports)).append(" hold ").append(from(1, oneIn(3) ? 60 : 25));
            s.append(maybe("coins", 0, oneIn(4) ? 9999 : 300)).append(";");
        }
        s.append(oneIn(2) ? "rule " + from(0, 2) + ";" : "");
        for (int i = from(0, 40); i > 0 && s.length() < 860; i--) {
            s.append(extra());
        }
        return s.toString();
    }

    private String extra() {
        switch (from(0, 7)) {
            case 0: return nations.size() < 2 ? "\n" : "war " + two(nations) + ";";
            case 1:
            case 2:
            case 3: return goods.isEmpty() ? " " : "price " + one(ports) + " " + one(goods) + " " + from(1, oneIn(9) ? 99 : 9) + ";";
            case 4:
            case 5: return ports.size() < 2 ? "" : "way " + two(ports) + " days " + from(1, oneIn(5) ? 20 : 4) + ";";
            default: return goods.isEmpty() ? "" : "aboard " + one(ships) + " " + one(goods) + " " + from(1, oneIn(20) ? 20 : 4) + ";";
        }
    }

    private String two(List<String> of) {
        int a = random.nextInt(of.size());
        int b = oneIn(60) ? a : (a + from(1, of.size() - 1)) % of.size();
        return of.get(a) + " " + of.get(b);
    }

    String voyages() {
        if (oneIn(40)) {
            // To come near the last day.
            return "loop 99;day 20;day " + from(1, 20) + ";end;any " + one(ships) + ";";
        }
        StringBuilder s = new StringBuilder();
        int open = 0;
        int few = oneIn(8) ? 34 : 12;
        for (int i = from(0, few); i > 0 && s.length() < 260; i--) {
            String step = few == 34 && !oneIn(5) ? "day 1;" : step();
            if (step.equals("end;") && open == 0) {
                continue;
            }
            open += step.startsWith("when") || step.startsWith("loop") ? 1 : step.equals("end;") ? -1 : 0;
            s.append(step);
        }
        for (; open > 0; open--) {
            s.append("end;");
        }
        return s.toString();
    }

    private String step() {
        switch (from(0, 10)) {
            case 0:
            case 1: return "day " + from(1, oneIn(4) ? 20 : 4) + ";";
            case 2: return "buy " + lading();
            case 3: return "sell " + lading();
            case 4: return "dump " + lading();
            case 5: return "sail " + one(ships) + " " + one(ports) + ";";
            case 6: return "any " + one(ships) + ";";
            case 7: return "when " + test() + ";";
            case 8: return "loop " + from(1, oneIn(4) ? 99 : 3) + ";";
            case 9: return oneIn(6) ? "stop;" : "day 1;";
            default: return "end;";
        }
    }

    private String lading() {
        return one(ships) + " " + one(goods) + " " + from(1, oneIn(9) ? 60 : 5) + ";";
    }

    private String test() {
        switch (from(0, 2)) {
            case 0: return "ruled " + one(ships) + " " + one(nations);
            case 1: return "in " + one(ships) + " " + one(ports);
            default: return "coins " + one(ships) + " " + "<>=".charAt(from(0, 2)) + from(0, oneIn(4) ? 9999 : 150);
        }
    }

    /** The text with some bytes lost, doubled, or put in. */
    String spoilt(String text) {
        int a = random.nextInt(text.length() + 1);
        int b = Math.min(text.length(), a + from(0, 6));
        switch (from(0, 3)) {
            case 0: return text.substring(0, a) + text.substring(b);
            case 1: return text.substring(0, b) + text.substring(a);
            case 2: return text.substring(0, a);
            default: return text.substring(0, a) + BITS[random.nextInt(BITS.length)] + text.substring(oneIn(2) ? a : b);
        }
    }

    private static int below(Random r, int n) {
        return r.nextInt(Math.max(1, n));
    }

    /** An argument of a call that is likely to be taken. */
    static long likely(String call, int i, Random r, Model m) {
        Model.Globe g = m.globe();
        char kind = KINDS.charAt(KINDS.indexOf(" " + call + ":") + call.length() + 2 + i);
        switch (kind) {
            case 'n': return below(r, g.nations.size());
            case 'g': return below(r, g.goods.size());
            case 'p': return below(r, g.ports.size());
            case 's': return below(r, g.ships.size());
            case 't': return 1 + r.nextInt(r.nextInt(4) == 0 ? 60 : 6);
            case 'd': return r.nextInt(r.nextInt(4) == 0 ? 100 : 12);
            case 'D': return 1 + r.nextInt(r.nextInt(9) == 0 ? 99 : 6);
            case 'c': return r.nextInt(401) - 200;
            case 'P': return r.nextInt(r.nextInt(4) == 0 ? 100 : 10);
            case 'l': return 1 + r.nextInt(m.globe().ports.size() * m.globe().goods.size() > 20 ? 2 : 3);
            case 'T': return r.nextInt(4);
            case 'm': return r.nextInt(r.nextInt(4) == 0 ? 61 : 8);
            case 'v': return r.nextInt(4) == 0 ? r.nextLong() : r.nextInt(4) - 1;
            case 'N': return 1 + r.nextInt(r.nextInt(4) == 0 ? 20 : 4);
            case 'h': return 2 + r.nextInt(r.nextInt(6) == 0 ? 59 : 12);
            case 'S': return r.nextInt(8) == 0 ? 9999 - r.nextInt(6) : r.nextInt(10000);
            case 'M': return 1 + r.nextInt(5);
            case 'b': return r.nextInt();
            default: return r.nextInt(kind - '0' + 1);
        }
    }

    /* Of each call what its arguments are; a digit: up to that. */
    private static final String KINDS = " tray:T3m write:Tmv read:Tm pour:TmTmm feed:bbbbb world:m voyages:m fault:2 told:9 nation:n3 good:g2"
        + " portOf:p price:pg way:pp ship:s7 aboard:sg weight:sn weightBy:sn2 captains:s ruled:s ruledBy:s2 share:sn lawful:s7 deeds:s"
        + " board:ss boarders:s greatest:n buy:sgt sell:sgt dump:sgt sail:sp day:D pass:ssgt rule:2 war:nn1 trade:pgP pay:sc flagIn:sd"
        + " tonsIn:sd turns:s flags:sd wages:sd stowaway:s stowawayGood:s guard:st passFor:sn passGood:sn peace:s peaceCost:s voyage:sl"
        + " voyageAt:sl1 soonest:pp next:pp reach:p best:pp log:TNh sure:TNh copyLog:sTN live:S lived:4 mean:SM mark: undo: status: top:"
        + " bottom:";
}
