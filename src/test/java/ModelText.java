import java.util.ArrayList;
import java.util.List;
import java.util.Set;
import java.util.regex.Matcher;
import java.util.regex.Pattern;

/** The two grammars of the document, for Model: a text is cut into tokens first, then read; a fault is thrown. */
final class ModelText {
    /** The first fault along the text. */
    static final class Fault extends RuntimeException {
        private static final long serialVersionUID = 1;
        final int kind;
        final int place;

        Fault(int kind, int place) {
            super(kind + " at " + place, null, false, false);
            this.kind = kind;
            this.place = place;
        }
    }

    /** One step, with those within it. */
    static final class Step {
        String word;
        int ship;
        int thing;
        int number;
        List<Step> within = new ArrayList<>();
    }

    private static final Set<String> KEPT = Set.of(("nation, wage, duty, deeds, war, good, of, worth, leaks, port, price, way, days, ship, at, "
        + "hold, coins, aboard, rule, day, buy, sell, dump, sail, any, when, ruled, in, loop, end, stop").split(", "));
    private static final Pattern TOKEN = Pattern.compile("[ \n]*([a-z]+|[0-9]+|[;<>=]|[^ \n])", Pattern.DOTALL);

    private final List<String> tokens = new ArrayList<>();
    private final List<Integer> places = new ArrayList<>();
    private int at = 0;
    private boolean ruleTold = false;
    int steps = 0;

    ModelText(String text) {
        Matcher m = TOKEN.matcher(text);
        while (m.find()) {
            tokens.add(m.group(1));
            places.add(m.start(1));
        }
        tokens.add("");
        places.add(text.length());
    }

    private String here() {
        return tokens.get(at);
    }

    private Fault fault(int kind) {
        boolean none = !here().matches("|[a-z]+|[0-9]{1,4}|[;<>=]");
        return new Fault(none ? 1 : kind, places.get(at));
    }

    private void must(boolean holds, int kind) {
        if (!holds) {
            throw fault(kind);
        }
    }

    private void take(String token) {
        must(here().equals(token), 2);
        at++;
    }

    private boolean takeIf(String token) {
        if (!here().equals(token)) {
            return false;
        }
        at++;
        return true;
    }

    private int number(int least, int most) {
        must(here().matches("[0-9]{1,4}"), 2);
        int v = Integer.parseInt(here());
        must(v >= least && v <= most, 4);
        at++;
        return v;
    }

    private int numberBehind(String word, int least, int most, int without) {
        return takeIf(word) ? number(least, most) : without;
    }

    private String name() {
        must(here().matches("[a-z]{1,8}") && !KEPT.contains(here()), 2);
        return here();
    }

    private int old(List<String> names) {
        int i = names.indexOf(name());
        must(i >= 0, 3);
        at++;
        return i;
    }

    private int another(List<String> names, int than) {
        int i = names.indexOf(name());
        must(i >= 0, 3);
        must(i != than, 5);
        at++;
        return i;
    }

    /** The word of a thing more, and its name. */
    private void fresh(Model.Globe g, List<String> names, int most) {
        must(names.size() < most, 6);
        at++;
        String n = name();
        boolean taken = g.nations.contains(n) || g.goods.contains(n) || g.ports.contains(n) || g.ships.contains(n);
        must(!taken, 3);
        names.add(n);
        at++;
    }

    Model.Globe world() {
        Model.Globe g = new Model.Globe();
        while (!here().isEmpty()) {
            part(g);
            take(";");
        }
        return g;
    }

    private void part(Model.Globe g) {
        switch (here()) {
            case "nation":
                fresh(g, g.nations, 6);
                int wage = numberBehind("wage", 0, 20, 1);
                int duty = numberBehind("duty", 0, 9, 0);
                g.lawOfNation.add(new int[] {wage, duty, numberBehind("deeds", 0, 255, 0)});
                break;
            case "war":
                at++;
                int one = old(g.nations);
                g.wars.add(Model.Globe.pair(one, another(g.nations, one)));
                break;
            case "good":
                fresh(g, g.goods, 8);
                take("of");
                int of = old(g.nations);
                take("worth");
                int worth = number(1, 99);
                g.kindOfGood.add(new int[] {of, worth, numberBehind("leaks", 0, 9, 0)});
                break;
            case "port":
                fresh(g, g.ports, 6);
                g.nationOfPort.add(takeIf("of") ? old(g.nations) : -1);
                break;
            default:
                partOfSea(g);
        }
    }

    private void partOfSea(Model.Globe g) {
        switch (here()) {
            case "price":
                at++;
                String where = old(g.ports) + " " + old(g.goods);
                g.prices.put(where, number(1, 99));
                break;
            case "way":
                at++;
                int a = old(g.ports);
                int b = another(g.ports, a);
                take("days");
                g.ways.put(Model.Globe.pair(a, b), number(1, 20));
                break;
            case "ship":
                fresh(g, g.ships, 4);
                Model.Hull h = new Model.Hull();
                take("at");
                h.port = old(g.ports);
                take("hold");
                h.hold = number(1, 60);
                h.coins = numberBehind("coins", 0, 9999, 100);
                g.hulls.add(h);
                break;
            case "aboard":
                at++;
                Model.Hull of = g.hulls.get(old(g.ships));
                int good = old(g.goods);
                of.put(good, of.tons(good) + number(1, of.hold - of.allTons()));
                break;
            case "rule":
                must(!ruleTold, 5);
                ruleTold = true;
                at++;
                g.rule = number(0, 2);
                break;
            default:
                throw fault(2);
        }
    }

    List<Step> voyages(Model.Globe g) {
        List<Step> all = block(g, 0);
        must(here().isEmpty(), 2);
        return all;
    }

    /** Steps till an end (which is left there) or the text's end. */
    private List<Step> block(Model.Globe g, int within) {
        List<Step> all = new ArrayList<>();
        while (!here().isEmpty() && !here().equals("end")) {
            must(Set.of("day", "buy", "sell", "dump", "sail", "any", "when", "loop", "stop").contains(here()), 2);
            must(steps < 30, 6);
            boolean holds = here().equals("when") || here().equals("loop");
            must(!holds || within < 3, 7);
            steps++;
            Step s = step(g);
            take(";");
            if (holds) {
                s.within = block(g, within + 1);
                take("end");
                take(";");
            }
            all.add(s);
        }
        return all;
    }

    private Step step(Model.Globe g) {
        Step s = new Step();
        s.word = here();
        at++;
        switch (s.word) {
            case "day": s.number = number(1, 20); break;
            case "loop": s.number = number(1, 99); break;
            case "stop": break;
            case "when": test(g, s); break;
            default:
                s.ship = old(g.ships);
                if (s.word.equals("sail")) {
                    s.thing = old(g.ports);
                } else if (!s.word.equals("any")) {
                    s.thing = old(g.goods);
                    s.number = number(1, 60);
                }
        }
        return s;
    }

    private void test(Model.Globe g, Step s) {
        s.word = here();
        must(Set.of("ruled", "in", "coins").contains(s.word), 2);
        at++;
        s.ship = old(g.ships);
        switch (s.word) {
            case "ruled": s.thing = old(g.nations); break;
            case "in": s.thing = old(g.ports); break;
            default:
                must(here().matches("[<>=]"), 2);
                s.word = here();
                at++;
                s.number = number(0, 9999);
        }
    }
}
