/** Promises 21 to 31: who rules whom. */
public final class FlagsTest {
    public static void main(String[] args) {
        weights();
        captains();
        ruled();
        share();
        lawful();
        boarding();
        greatest();
        Sea.end("FlagsTest");
    }

    private static void weights() {
        Sea s = Sea.of("weights");
        s.x.buy(2, 0, 4);
        s.x.buy(2, 1, 7);
        int[][] due = {{4, 7, 0}, {1, 1, 0}, {40, 28, 0}};
        for (int r = 0; r < 3; r++) {
            for (int n = 0; n < 3; n++) {
                s.fine("weightBy " + n + " " + r, s.x.weightBy(2, n, r), due[r][n]);
            }
        }
        for (int r = 0; r < 3; r++) {
            s.x.rule(r);
            s.fine("weight", s.x.weight(2, 0), due[r][0]);
        }
        s.none("no ship", s.x.weight(3, 0), 1);
        s.none("no ship", s.x.weight(-1, 0), 1);
        s.none("no nation", s.x.weight(0, 3), 1);
        s.none("no nation", s.x.weight(0, -1), 1);
        s.none("no rule", s.x.weightBy(0, 0, 3), 1);
        s.none("no rule", s.x.weightBy(0, 0, -1), 1);
        s.none("no ship", s.x.weightBy(3, 0, 0), 1);
        s.none("no nation", s.x.weightBy(0, 3, 0), 1);
        // Two kinds of one nation.
        Sea k = new Sea("kinds");
        k.world("nation a;nation b;good g of a worth 5;good h of a worth 7;good i of b worth 99;port p;ship s at p hold 9;"
            + "aboard s g 2;aboard s h 3;aboard s i 1;");
        k.fine("tons", k.x.weightBy(0, 0, 0), 5);
        k.fine("kinds", k.x.weightBy(0, 0, 1), 2);
        k.fine("worth", k.x.weightBy(0, 0, 2), 31);
        k.fine("worth", k.x.weightBy(0, 1, 2), 99);
    }

    private static void captains() {
        Sea s = Sea.of("captains");
        s.fine("blue", s.x.captains(0), 2);
        s.fine("empty", s.x.captains(2), 0);
        s.x.rule(1);
        s.fine("by kinds", s.x.captains(0), 3);
        s.x.rule(2);
        s.fine("by worth", s.x.captains(0), 1);
        s.none("no ship", s.x.captains(3), 1);
        s.none("no ship", s.x.captains(-1), 1);
        Sea t = new Sea("three captains");
        t.world("nation a;nation b;nation c;nation d;good e of b worth 1;good f of c worth 1;good g of d worth 1;good h of a worth 9;"
            + "port p;ship s at p hold 9;aboard s e 2;aboard s f 2;aboard s g 2;aboard s h 1;");
        t.fine("b, c, d", t.x.captains(0), 14);
        t.x.dump(0, 1, 1);
        t.fine("b, d", t.x.captains(0), 10);
    }

    private static void ruled() {
        Sea s = Sea.of("ruled");
        s.fine("blue", s.x.ruled(0), 1);
        s.none("empty", s.x.ruled(2), 6);
        s.fine("by worth", s.x.ruledBy(0, 2), 0);
        s.none("by kinds", s.x.ruledBy(0, 1), 6);
        s.fine("by tons", s.x.ruledBy(0, 0), 1);
        s.x.rule(2);
        s.fine("by the rule now", s.x.ruled(0), 0);
        s.fine("by another", s.x.ruledBy(0, 0), 1);
        s.x.rule(1);
        s.none("lawless", s.x.ruled(0), 6);
        s.none("no ship", s.x.ruled(3), 1);
        s.none("no ship", s.x.ruled(-1), 1);
        s.none("no rule", s.x.ruledBy(0, 3), 1);
        s.none("no rule", s.x.ruledBy(0, -1), 1);
        s.none("no ship", s.x.ruledBy(3, 0), 1);
    }

    private static void share() {
        Sea s = Sea.of("share");
        s.fine("of red", s.x.share(0, 0));
        s.fraction("of red", 2, 5);
        s.no("empty", s.x.share(2, 0), 6);
        s.no("no ship", s.x.share(3, 0), 1);
        s.no("no nation", s.x.share(0, 3), 1);
        s.fraction("stays", 2, 5);
        s.fine("of green", s.x.share(0, 2));
        s.fraction("0 by 1", 0, 1);
        s.fine("of all", s.x.share(1, 1));
        s.fraction("1 by 1", 1, 1);
        s.x.rule(2);
        s.fine("by worth", s.x.share(0, 0));
        s.fraction("20 by 32", 5, 8);
        s.x.rule(1);
        s.fine("by kinds", s.x.share(0, 1));
        s.fraction("1 by 2", 1, 2);
    }

    private static void lawful() {
        // Deeds: a 0011, b 0101; a ship of a alone, one of both, an empty one.
        Sea s = new Sea("lawful");
        s.world("nation a deeds 3;nation b deeds 5;nation c;good g of a worth 1;good h of b worth 1;good i of c worth 1;port p;"
            + "ship s at p hold 9;ship t at p hold 9;ship u at p hold 9;ship v at p hold 9;"
            + "aboard s g 1;aboard t g 2;aboard t h 2;aboard v g 1;aboard v h 1;aboard v i 1;");
        s.fine("of one", s.x.deeds(0), 3);
        s.fine("of two: of all 1, of none 11111000", s.x.deeds(1), 249);
        s.fine("without captains", s.x.deeds(2), 255);
        s.fine("of three: of all 0, of none 11111000", s.x.deeds(3), 248);
        for (int v = 0; v < 4; v++) {
            int set = s.x.deeds(v);
            for (int d = 0; d < 8; d++) {
                s.fine("lawful " + v + " " + d, s.x.lawful(v, d), set >> d & 1);
            }
        }
        Sea t = new Sea("lawful of none");
        t.world("nation a deeds 6;nation b deeds 10;good g of a worth 1;good h of b worth 1;port p;ship s at p hold 9;aboard s g 2;aboard s h 2;");
        t.fine("of all 2, of none 11110001", t.x.deeds(0), 243);
        s.none("no deed", s.x.lawful(0, 8), 1);
        s.none("no deed", s.x.lawful(0, -1), 1);
        s.none("no ship", s.x.lawful(4, 0), 1);
        s.none("no ship", s.x.deeds(4), 1);
        s.none("no ship", s.x.deeds(-1), 1);
    }

    private static void boarding() {
        Sea s = Sea.of("boarding");
        s.x.buy(2, 0, 3);
        s.fine("blue and blue", s.x.board(0, 1), 0);
        s.fine("red and blue", s.x.board(2, 0), 1);
        s.fine("blue and red", s.x.board(0, 2), 1);
        s.fine("boarders of red", s.x.boarders(2), 3);
        s.fine("boarders of blue", s.x.boarders(0), 4);
        s.none("itself", s.x.board(1, 1), 1);
        s.none("no ship", s.x.board(0, 3), 1);
        s.none("no ship", s.x.board(-1, 0), 1);
        s.none("no ship", s.x.boarders(3), 1);
        s.none("no ship", s.x.boarders(-1), 1);
        s.x.war(0, 1, false);
        s.fine("peace", s.x.board(2, 0), 0);
        s.fine("peace", s.x.boarders(2), 0);
        s.x.war(0, 1, true);
        s.x.dump(2, 0, 3);
        s.fine("a lawless one", s.x.board(2, 0), 0);
        s.fine("a lawless one", s.x.board(0, 2), 0);
        s.fine("a lawless one", s.x.boarders(2), 0);
    }

    private static void greatest() {
        Sea s = Sea.of("greatest");
        s.fine("blue", s.x.greatest(1), 1);
        s.fine("red", s.x.greatest(0), 0);
        s.none("green", s.x.greatest(2), 6);
        s.none("no nation", s.x.greatest(3), 1);
        s.none("no nation", s.x.greatest(-1), 1);
        s.x.buy(2, 0, 2);
        s.fine("of several the first", s.x.greatest(0), 0);
        s.x.buy(2, 0, 1);
        s.fine("the most", s.x.greatest(0), 2);
        s.x.rule(1);
        s.fine("tons by any rule", s.x.greatest(0), 2);
        s.x.trade(0, 3, 1);
        s.x.buy(2, 3, 1);
        s.fine("a single ton", s.x.greatest(2), 2);
    }
}
