import java.util.ArrayList;
import java.util.HashMap;
import java.util.List;
import java.util.Map;
import java.util.Set;
import java.util.regex.Matcher;
import java.util.regex.Pattern;

/** Reads worlds and voyages in another way than the class: all tokens at once, and faults as exceptions. */
final class TextOracle {
    static final class Fault extends RuntimeException {
        private static final long serialVersionUID = 1;
        final int kind;
        final int place;

        Fault(int kind, int place) {
            this.kind = kind;
            this.place = place;
        }
    }

    /** A step of voyages; a when or loop has steps within it. */
    static final class Step {
        String act;
        int ship;
        int thing;
        int number;
        List<Step> body = new ArrayList<>();
    }

    private static final Set<String> WORDS = Set.of("nation", "wage", "duty", "deeds", "war", "good", "of", "worth", "leaks",
        "port", "price", "way", "days", "ship", "at", "hold", "coins", "aboard", "rule", "day", "buy", "sell", "dump", "sail",
        "any", "when", "ruled", "in", "loop", "end", "stop");
    private static final Pattern TOKEN = Pattern.compile("[ \\n]*(?:([a-z]+)|([0-9]+)|([;<>=])|([^ \\n]))", Pattern.DOTALL);

    /* What a world tells, by the names' numbers. */
    final Map<String, String> kinds = new HashMap<>();
    final Map<String, Integer> numbers = new HashMap<>();
    final Map<String, Integer> counts = new HashMap<>(Map.of("nation", 0, "good", 0, "port", 0, "ship", 0));
    final Map<String, Integer> facts = new HashMap<>();

    private List<String> tokens;
    private List<Integer> places;
    private int at;
    private int length;
    private int steps;

    private void scan(String text) {
        tokens = new ArrayList<>();
        places = new ArrayList<>();
        at = 0;
        length = text.length();
        Matcher m = TOKEN.matcher(text);
        int from = 0;
        while (m.find(from) && m.start() == from) {
            String t = m.group().replaceAll("[ \\n]", "");
            tokens.add(m.group(4) != null || t.matches("[0-9]{5,}") ? "#" : t);
            places.add(m.end() - t.length());
            from = m.end();
        }
    }

    private int place() {
        return at < tokens.size() ? places.get(at) : length;
    }

    private String look() {
        return at < tokens.size() ? tokens.get(at) : "";
    }

    private Fault misfit() {
        return new Fault(look().equals("#") ? 1 : 2, place());
    }

    private void must(String token) {
        if (!look().equals(token)) {
            throw misfit();
        }
        at++;
    }

    private boolean may(String token) {
        if (!look().equals(token)) {
            return false;
        }
        at++;
        return true;
    }

    private String name() {
        if (!look().matches("[a-z]{1,8}") || WORDS.contains(look())) {
            throw misfit();
        }
        return look();
    }

    private int known(String kind) {
        String n = name();
        if (!kind.equals(kinds.get(n))) {
            throw new Fault(3, place());
        }
        at++;
        return numbers.get(n);
    }

    private int other(String kind, int than) {
        int where = place();
        int found = known(kind);
        if (found == than) {
            throw new Fault(5, where);
        }
        return found;
    }

    private int fresh(String kind, int most) {
        if (counts.get(kind) == most) {
            throw new Fault(6, place());
        }
        at++;
        String n = name();
        if (kinds.containsKey(n)) {
            throw new Fault(3, place());
        }
        at++;
        kinds.put(n, kind);
        int number = counts.merge(kind, 1, Integer::sum) - 1;
        numbers.put(n, number);
        return number;
    }

    private int number(int least, int most) {
        if (!look().matches("[0-9]+")) {
            throw misfit();
        }
        int v = Integer.parseInt(look());
        if (v < least || v > most) {
            throw new Fault(4, place());
        }
        at++;
        return v;
    }

    private int option(String word, int most, int without) {
        return may(word) ? number(0, most) : without;
    }

    private void fact(int v, Object... key) {
        facts.put(java.util.Arrays.toString(key), v);
    }

    int factOf(int without, Object... key) {
        return facts.getOrDefault(java.util.Arrays.toString(key), without);
    }

    void world(String text) {
        scan(text);
        while (at < tokens.size()) {
            part(look());
            must(";");
        }
    }

    private void part(String word) {
        switch (word) {
            case "nation": {
                int n = fresh("nation", 6);
                fact(option("wage", 20, 1), "nation", n, 0);
                fact(option("duty", 9, 0), "nation", n, 1);
                fact(option("deeds", 255, 0), "nation", n, 2);
                break;
            }
            case "war": {
                at++;
                int a = known("nation");
                int b = other("nation", a);
                fact(factOf(0, "nation", a, 3) | 1 << b, "nation", a, 3);
                fact(factOf(0, "nation", b, 3) | 1 << a, "nation", b, 3);
                break;
            }
            case "good": {
                int g = fresh("good", 8);
                must("of");
                fact(known("nation"), "good", g, 0);
                must("worth");
                fact(number(1, 99), "good", g, 1);
                fact(option("leaks", 9, 0), "good", g, 2);
                break;
            }
            case "port": {
                int p = fresh("port", 6);
                if (may("of")) {
                    fact(known("nation"), "portOf", p);
                }
                break;
            }
            case "price": {
                at++;
                int p = known("port");
                int g = known("good");
                fact(number(1, 99), "price", p, g);
                break;
            }
            case "way": {
                at++;
                int a = known("port");
                int b = other("port", a);
                must("days");
                int d = number(1, 20);
                fact(d, "way", a, b);
                fact(d, "way", b, a);
                break;
            }
            case "ship": {
                int s = fresh("ship", 4);
                must("at");
                fact(known("port"), "ship", s, 0);
                must("hold");
                fact(number(1, 60), "ship", s, 3);
                fact(option("coins", 9999, 100), "ship", s, 4);
                break;
            }
            case "aboard": {
                at++;
                int s = known("ship");
                int g = known("good");
                int room = factOf(0, "ship", s, 3) - factOf(0, "ship", s, 5);
                int t = number(1, Math.min(60, room));
                fact(factOf(0, "ship", s, 5) + t, "ship", s, 5);
                fact(factOf(0, "aboard", s, g) + t, "aboard", s, g);
                break;
            }
            case "rule":
                if (factOf(-1, "rule") >= 0) {
                    throw new Fault(5, place());
                }
                at++;
                fact(number(0, 2), "rule");
                break;
            default:
                throw misfit();
        }
    }

    /** The steps of voyages by this world's names. */
    List<Step> voyages(String text) {
        scan(text);
        steps = 0;
        List<Step> all = stepsUpTo(0);
        if (at < tokens.size()) {
            throw misfit();
        }
        return all;
    }

    private List<Step> stepsUpTo(int depth) {
        List<Step> all = new ArrayList<>();
        while (at < tokens.size() && !look().equals("end")) {
            all.add(step(depth));
        }
        return all;
    }

    private Step step(int depth) {
        Step s = new Step();
        s.act = look();
        if (!Set.of("day", "buy", "sell", "dump", "sail", "any", "when", "loop", "stop").contains(s.act)) {
            throw misfit();
        }
        if (++steps > 30) {
            throw new Fault(6, place());
        }
        boolean block = s.act.equals("when") || s.act.equals("loop");
        if (block && depth == 3) {
            throw new Fault(7, place());
        }
        at++;
        rest(s);
        must(";");
        if (block) {
            s.body = stepsUpTo(depth + 1);
            must("end");
            must(";");
        }
        return s;
    }

    private void rest(Step s) {
        switch (s.act) {
            case "day":
                s.number = number(1, 20);
                break;
            case "loop":
                s.number = number(1, 99);
                break;
            case "buy":
            case "sell":
            case "dump":
                s.ship = known("ship");
                s.thing = known("good");
                s.number = number(1, 60);
                break;
            case "sail":
                s.ship = known("ship");
                s.thing = known("port");
                break;
            case "any":
                s.ship = known("ship");
                break;
            case "when":
                test(s);
                break;
            default:
                break;
        }
    }

    private void test(Step s) {
        String word = look();
        if (!Set.of("ruled", "in", "coins").contains(word)) {
            throw misfit();
        }
        at++;
        s.ship = known("ship");
        if (word.equals("coins")) {
            String sign = look();
            if (!Set.of("<", ">", "=").contains(sign)) {
                throw misfit();
            }
            at++;
            s.number = number(0, 9999);
            s.act = "when " + sign;
        } else {
            s.thing = known(word.equals("in") ? "port" : "nation");
            s.act = "when " + word;
        }
    }
}
