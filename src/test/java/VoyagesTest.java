/** Promises 54 to 59: the voyage that gains most, the way that is soonest. */
public final class VoyagesTest {
    public static void main(String[] args) {
        voyage();
        voyageRules();
        ties();
        noTonIsNoChoice();
        soonest();
        next();
        reach();
        best();
        Sea.end("VoyagesTest");
    }

    private static void voyage() {
        Sea s = new Sea("voyage");
        s.world("nation a wage 1;good g of a worth 1;port p;port q;price p g 2;price q g 5;way p q days 3;ship s at p hold 10 coins 9;");
        // Four tons for 8, a wage of 1, then no coins: unpaid; 4 x 5.
        s.fine("one leg", s.x.voyage(0, 1), 20);
        s.fine("to q", s.x.voyageAt(0, 1, 0), 1);
        s.fine("with g", s.x.voyageAt(0, 1, 1), 0);
        s.fine("two legs: back with nothing", s.x.voyage(0, 2), 20);
        // 20 coins: 10 tons, no wage can be paid, 50.
        s.fine("three legs", s.x.voyage(0, 3), 50);
        s.fine("all stays", s.x.ship(0, 4), 9);
        s.fine("all stays", s.x.told(5), 0);
        s.none("0 legs", s.x.voyage(0, 0), 1);
        s.none("4 legs", s.x.voyage(0, 4), 1);
        s.none("no ship", s.x.voyage(1, 1), 1);
        s.none("no ship", s.x.voyage(-1, 1), 1);
        s.none("what 2", s.x.voyageAt(0, 1, 2), 1);
        s.none("what -1", s.x.voyageAt(0, 1, -1), 1);
        s.none("4 legs", s.x.voyageAt(0, 4, 0), 1);
        s.none("no ship", s.x.voyageAt(1, 1, 0), 1);
        s.x.sail(0, 1);
        s.none("at sea", s.x.voyage(0, 1), 7);
        s.none("at sea", s.x.voyageAt(0, 1, 0), 7);
        s.world("port p;port q;ship s at p hold 10;");
        s.none("no way", s.x.voyage(0, 1), 6);
        s.none("no way", s.x.voyageAt(0, 1, 1), 6);
    }

    private static void voyageRules() {
        Sea s = new Sea("voyage rules");
        String w = "nation a wage 2 duty 3;nation b wage 0;good g of a worth 1 leaks 1;good h of b worth 1;port p;port q of a;way p q days 2;";
        s.world(w + "price p g 1;price q g 9;ship s at p hold 10 coins 20;");
        // Ten tons for 10, wages 4, eight tons left: 6 + 72; no duty, as a rules it.
        s.fine("leaks and wages", s.x.voyage(0, 1), 78);
        s.world(w + "price q h 9;ship s at p hold 10 coins 20;aboard s h 5;");
        // Duty of 15 ahead of the sale.
        s.fine("duty", s.x.voyage(0, 1), 50);
        s.fine("nothing is bought", s.x.voyageAt(0, 1, 1), -1);
        s.world(w + "price p g 1;price q g 99;ship s at p hold 60 coins 9000;");
        s.fine("9,999 at most", s.x.voyage(0, 1), 9999);
        s.world(w + "price p h 4;price q h 1;ship s at p hold 10 coins 20;aboard s h 5;");
        s.fine("it sells all first, and buys none", s.x.voyage(0, 1), 40);
        s.fine("nothing", s.x.voyageAt(0, 1, 1), -1);
    }

    private static void ties() {
        Sea s = new Sea("ties");
        String w = "nation a wage 0;good g of a worth 1;good h of a worth 1;port p;port q;port r;way p q days 1;way p r days 1;way q r days 1;";
        s.world(w + "ship s at p hold 10 coins 20;");
        s.fine("nothing to gain", s.x.voyage(0, 3), 20);
        s.fine("the first port", s.x.voyageAt(0, 3, 0), 1);
        s.fine("none", s.x.voyageAt(0, 3, 1), -1);
        s.world(w + "price p h 2;price r h 2;price p g 5;price r g 5;ship s at p hold 10 coins 20;");
        s.fine("the same", s.x.voyage(0, 1), 20);
        s.fine("the first port, with nothing", s.x.voyageAt(0, 1, 0), 1);
        s.fine("the first port, with nothing", s.x.voyageAt(0, 1, 1), -1);
        s.fine("two legs, over q", s.x.voyage(0, 2), 20);
        s.fine("the first port", s.x.voyageAt(0, 2, 0), 1);
        s.fine("the first good ahead of nothing", s.x.voyageAt(0, 2, 1), 0);
    }

    private static void noTonIsNoChoice() {
        Sea s = new Sea("no ton is no choice");
        s.world("nation a wage 0;good g of a worth 1;port p;port q;way p q days 1;price p g 5;price q g 5;ship s at p hold 10 coins 4;");
        s.fine("coins", s.x.voyage(0, 1), 4);
        s.fine("too few for a ton", s.x.voyageAt(0, 1, 1), -1);
        s.x.pay(0, 1);
        s.fine("just a ton", s.x.voyageAt(0, 1, 1), 0);
        s.world("nation a wage 0;good g of a worth 1;good h of a worth 1;port p;port q;way p q days 1;price p g 5;price q g 5;"
            + "ship s at p hold 10 coins 40;aboard s h 10;");
        s.fine("no room", s.x.voyageAt(0, 1, 1), -1);
    }

    private static void soonest() {
        Sea s = new Sea("soonest");
        s.world("port a;port b;port c;port d;port e;way a b days 9;way a c days 2;way c d days 3;way d b days 3;");
        s.fine("over c, d", s.x.soonest(0, 1), 8);
        s.fine("back", s.x.soonest(1, 0), 8);
        s.fine("itself", s.x.soonest(4, 4), 0);
        s.none("none", s.x.soonest(0, 4), 6);
        s.none("no port", s.x.soonest(5, 0), 1);
        s.none("no port", s.x.soonest(0, -1), 1);
    }

    private static void next() {
        Sea s = new Sea("next");
        s.world("port a;port b;port c;port d;port e;way a b days 9;way a c days 2;way c d days 3;way d b days 3;");
        s.fine("over c", s.x.next(0, 1), 2);
        s.fine("over d", s.x.next(1, 0), 3);
        s.fine("at once", s.x.next(2, 3), 3);
        s.none("itself", s.x.next(0, 0), 1);
        s.none("none", s.x.next(0, 4), 6);
        s.none("no port", s.x.next(0, 5), 1);
        s.none("no port", s.x.next(-1, 0), 1);
        s.world("port a;port b;port c;port d;way a d days 4;way a c days 2;way c d days 2;way a b days 1;way b d days 3;");
        s.fine("of several the first", s.x.next(0, 3), 1);
        s.fine("of several the first", s.x.next(3, 0), 0);
    }

    private static void reach() {
        Sea s = new Sea("reach");
        s.world("port a;port b;port c;port d;port e;port f;way f e days 1;way e b days 1;way a c days 2;");
        int[] due = {5, 50, 5, 8, 50, 50};
        for (int p = 0; p < 6; p++) {
            s.fine("reach " + p, s.x.reach(p), due[p]);
        }
        s.none("no port", s.x.reach(6), 1);
        s.none("no port", s.x.reach(-1), 1);
    }

    private static void best() {
        Sea s = Sea.of("best");
        s.fine("rum", s.x.best(0, 1), 0);
        s.fine("tea", s.x.best(1, 0), 1);
        s.none("none in both", s.x.best(1, 2), 6);
        s.none("itself", s.x.best(1, 1), 1);
        s.none("no port", s.x.best(0, 4), 1);
        s.none("no port", s.x.best(-1, 0), 1);
        s.x.trade(0, 2, 1);
        s.x.trade(1, 2, 5);
        s.fine("of several the first", s.x.best(0, 1), 0);
        s.x.trade(1, 2, 6);
        s.fine("the most", s.x.best(0, 1), 2);
        s.x.trade(0, 2, 6);
        s.x.trade(0, 0, 9);
        s.none("0 is no gain", s.x.best(0, 1), 6);
    }
}
