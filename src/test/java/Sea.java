/** A CargoFlag under test, with the counting of answers that are due. */
final class Sea {
    /** A world that most tests begin with: three nations, four goods, four ports, three ships. */
    static final String WORLD = String.join("\n",
        "nation red wage 3 duty 2 deeds 5;",
        "nation blue wage 2 duty 1 deeds 6;",
        "nation green;",
        "war red blue;",
        "good rum of red worth 10 leaks 1;",
        "good tea of blue worth 4 leaks 2;",
        "good oak of red worth 3;",
        "good fur of green worth 7;",
        "port ash of red; port bay of blue; port cay; port dun of green;",
        "price ash rum 5; price ash tea 3; price bay rum 9; price bay tea 2; price cay fur 4;",
        "way ash bay days 2; way bay cay days 3;",
        "ship one at ash hold 10 coins 40;",
        "ship two at bay hold 20;",
        "ship tri at ash hold 60 coins 9999;",
        "aboard one rum 2; aboard one tea 3; aboard two tea 5;");

    private static int right = 0;
    private static int wrong = 0;

    final CargoFlag x = new CargoFlag();
    private final String name;

    Sea(String name) {
        this.name = name;
    }

    /** A sea with WORLD in it. */
    static Sea of(String name) {
        Sea sea = new Sea(name);
        sea.due("ships", sea.world(WORLD), 3);
        return sea;
    }

    void due(String call, long got, long want) {
        if (got == want) {
            right++;
            return;
        }
        wrong++;
        System.out.println(name + ": " + call + " answered " + got + ", due is " + want);
    }

    void due(String call, boolean got, boolean want) {
        due(call, got ? 1 : 0, want ? 1 : 0);
    }

    /** The answer with its STATUS, which must be 0. */
    void fine(String call, long got, long want) {
        due(call, got, want);
        due(call + " status", x.status(), 0);
    }

    void fine(String call, boolean got) {
        due(call, got, true);
        due(call + " status", x.status(), 0);
    }

    /** NONE with this STATUS. */
    void none(String call, long got, int status) {
        due(call, got, -1);
        due(call + " status", x.status(), status);
    }

    void no(String call, boolean got, int status) {
        due(call, got, false);
        due(call + " status", x.status(), status);
    }

    void fraction(String call, long top, long bottom) {
        due(call + " top", x.top(), top);
        due(call + " bottom", x.bottom(), bottom);
    }

    /** Puts a text on the tape, in twenties, filled up by zeros: how many bytes the tape has. */
    int feed(String text) {
        int fed = -1;
        for (int i = 0; i < text.length(); i += 20) {
            fed = x.feed(four(text, i), four(text, i + 4), four(text, i + 8), four(text, i + 12), four(text, i + 16));
        }
        return fed;
    }

    private static int four(String text, int at) {
        int v = 0;
        for (int i = at; i < at + 4; i++) {
            v = v << 8 | (i < text.length() ? text.charAt(i) & 255 : 0);
        }
        return v;
    }

    int world(String text) {
        feed(text);
        return x.world(text.length());
    }

    int voyages(String text) {
        feed(text);
        return x.voyages(text.length());
    }

    /** This text is no world: its fault and the place. */
    void badWorld(String text, int fault, int place) {
        none("world " + text, world(text), 9);
        due("fault of " + text, x.fault(0), fault);
        due("place in " + text, x.fault(1), place);
    }

    void badVoyages(String text, int fault, int place) {
        none("voyages " + text, voyages(text), 9);
        due("fault of " + text, x.fault(0), fault);
        due("place in " + text, x.fault(1), place);
    }

    void goodVoyages(String text, int steps) {
        fine("voyages " + text, voyages(text), steps);
        due("no fault in " + text, x.fault(0), 0);
        due("no place in " + text, x.fault(1), -1);
    }

    /** All that can be asked of the world, as a text, to see what a call has changed. */
    String all() {
        StringBuilder s = new StringBuilder();
        int[] told = new int[10];
        for (int w = 0; w < 10; w++) {
            told[w] = x.told(w);
            s.append(told[w]).append(' ');
        }
        for (int n = 0; n < told[0]; n++) {
            for (int w = 0; w < 4; w++) {
                s.append(x.nation(n, w)).append(' ');
            }
        }
        for (int g = 0; g < told[1]; g++) {
            for (int w = 0; w < 3; w++) {
                s.append(x.good(g, w)).append(' ');
            }
        }
        for (int p = 0; p < told[2]; p++) {
            s.append('|').append(x.portOf(p)).append(' ');
            for (int g = 0; g < told[1]; g++) {
                s.append(x.price(p, g)).append(' ');
            }
            for (int q = 0; q < told[2]; q++) {
                s.append(x.way(p, q)).append(' ');
            }
        }
        for (int v = 0; v < told[3]; v++) {
            s.append('/');
            for (int w = 0; w < 8; w++) {
                s.append(x.ship(v, w)).append(' ');
            }
            for (int g = 0; g < told[1]; g++) {
                s.append(x.aboard(v, g)).append(' ');
            }
        }
        return s.toString();
    }

    void same(String what, String got, String want) {
        due(what + " {" + got + "} {" + want + "}", got.equals(want), true);
    }

    /** Ends a test program: exit code 1 if an answer was not as due. */
    static void end(String test) {
        System.out.println(test + ": " + right + " answers as due, " + wrong + " not");
        if (wrong != 0 || right == 0) {
            System.exit(1);
        }
    }
}
