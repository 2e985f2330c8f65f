import java.util.ArrayList;
import java.util.List;
import java.util.Random;

/** Worlds and voyages by chance, always the same ones for a seed. */
final class RandomTexts {
    private final Random random;
    private final List<String> nations = new ArrayList<>();
    private final List<String> goods = new ArrayList<>();
    private final List<String> ports = new ArrayList<>();
    private final List<String> ships = new ArrayList<>();
    private int named = 0;

    RandomTexts(long seed) {
        random = new Random(seed);
    }

    int upTo(int most) {
        return random.nextInt(most + 1);
    }

    private String name(List<String> of) {
        StringBuilder s = new StringBuilder();
        s.append((char) ('a' + named % 26)).append((char) ('q' + named / 26));
        for (int i = upTo(2); i > 0; i--) {
            s.append((char) ('a' + upTo(25)));
        }
        named++;
        of.add(s.toString());
        return s.toString();
    }

    private String one(List<String> of) {
        return of.get(upTo(of.size() - 1));
    }

    /** A world that is taken, of at most 900 bytes. */
    String world(int mostNations, int mostGoods, int mostPorts, int mostShips) {
        StringBuilder s = new StringBuilder();
        for (int i = 1 + upTo(mostNations - 1); i > 0; i--) {
            s.append("nation ").append(name(nations));
            s.append(upTo(1) == 0 ? " wage " + upTo(9) : "").append(upTo(1) == 0 ? " duty " + upTo(3) : "");
            s.append(upTo(1) == 0 ? " deeds " + upTo(255) : "").append(";");
        }
        for (int i = 1 + upTo(mostGoods - 1); i > 0; i--) {
            s.append("good ").append(name(goods)).append(" of ").append(one(nations)).append(" worth ").append(1 + upTo(9));
            s.append(upTo(1) == 0 ? " leaks " + upTo(3) : "").append(";");
        }
        for (int i = 1 + upTo(mostPorts - 1); i > 0; i--) {
            s.append("port ").append(name(ports)).append(upTo(1) == 0 ? " of " + one(nations) : "").append(";");
        }
        for (int i = 1 + upTo(mostShips - 1); i > 0; i--) {
            s.append("ship ").append(name(ships)).append(" at ").append(one(ports)).append(" hold ").append(10 + upTo(50));
            s.append(upTo(1) == 0 ? " coins " + upTo(500) : "").append(";");
        }
        String rest = upTo(1) == 0 ? "rule " + upTo(2) + ";" : "";
        for (int i = 0; i < 60; i++) {
            String more = s + rest + extra();
            if (more.length() > 900) {
                break;
            }
            rest = more.substring(s.length());
        }
        return s + rest;
    }

    private String extra() {
        switch (upTo(6)) {
            case 0:
                return nations.size() < 2 || upTo(1) == 0 ? "" : two("war ", nations, ";");
            case 1:
            case 2:
                return "price " + one(ports) + " " + one(goods) + " " + (1 + upTo(19)) + ";";
            case 3:
                return ports.size() < 2 ? "" : two("way ", ports, " days " + (1 + upTo(4)) + ";");
            case 4:
                return upTo(2) > 0 ? "" : "aboard " + one(ships) + " " + one(goods) + " 1;";
            default:
                return "";
        }
    }

    private String two(String word, List<String> of, String rest) {
        int a = upTo(of.size() - 1);
        int b = (a + 1 + upTo(of.size() - 2)) % of.size();
        return word + of.get(a) + " " + of.get(b) + rest;
    }

    /** Voyages by the names of that world, perhaps too long or too deep. */
    String voyages(int parts) {
        StringBuilder s = new StringBuilder();
        int depth = 0;
        for (int i = 0; i < parts; i++) {
            switch (upTo(9)) {
                case 0: s.append("day ").append(1 + upTo(4)).append(";"); break;
                case 1: s.append("buy ").append(lading()); break;
                case 2: s.append("sell ").append(lading()); break;
                case 3: s.append("dump ").append(lading()); break;
                case 4: s.append("sail ").append(one(ships)).append(" ").append(one(ports)).append(";"); break;
                case 5: s.append("any ").append(one(ships)).append(";"); break;
                case 6: s.append("when ").append(test()).append(";"); depth++; break;
                case 7: s.append("loop ").append(1 + upTo(upTo(5) == 0 ? 98 : 3)).append(";"); depth++; break;
                case 8: s.append(upTo(5) == 0 ? "stop;" : "day 1;"); break;
                default:
                    if (depth > 0) {
                        s.append("end;");
                        depth--;
                    }
            }
        }
        for (; depth > 0; depth--) {
            s.append("end;");
        }
        return s.toString();
    }

    private String lading() {
        return one(ships) + " " + one(goods) + " " + (1 + upTo(9)) + ";";
    }

    private String test() {
        switch (upTo(2)) {
            case 0: return "ruled " + one(ships) + " " + one(nations);
            case 1: return "in " + one(ships) + " " + one(ports);
            default: return "coins " + one(ships) + "<>=".charAt(upTo(2)) + upTo(300);
        }
    }

    /** The text with a token or a byte lost, doubled, or put in. */
    String spoilt(String text) {
        String[] bits = {" ", ";", "x", "day", " nation ", "9", "99999", "#", "\n", "end;", " of ", "rule 1;", "abcdefghi", " 0", "<"};
        int a = upTo(Math.max(0, text.length() - 1));
        int b = Math.min(text.length(), a + upTo(6));
        switch (upTo(3)) {
            case 0: return text.substring(0, a) + text.substring(b);
            case 1: return text.substring(0, b) + text.substring(a);
            case 2: return text.substring(0, a);
            default: return text.substring(0, a) + bits[upTo(bits.length - 1)] + text.substring(upTo(1) == 0 ? a : b);
        }
    }
}
