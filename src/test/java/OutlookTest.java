/** Promises 42 to 53: what would be. */
public final class OutlookTest {
    public static void main(String[] args) {
        flagIn();
        tonsIn();
        turns();
        flags();
        wages();
        stowaway();
        guard();
        passFor();
        peace();
        peaceOfAFullShip();
        Sea.end("OutlookTest");
    }

    private static void flagIn() {
        Sea s = Sea.of("flagIn");
        s.fine("today", s.x.flagIn(0, 0), 1);
        s.fine("rum 1, tea 1", s.x.tonsIn(0, 1), 2);
        s.none("lawless", s.x.flagIn(0, 1), 6);
        s.none("empty", s.x.flagIn(0, 2), 6);
        s.none("far", s.x.flagIn(0, 99), 6);
        s.none("100", s.x.flagIn(0, 100), 1);
        s.none("-1", s.x.flagIn(0, -1), 1);
        s.none("no ship", s.x.flagIn(3, 0), 1);
        s.x.rule(2);
        s.fine("by worth", s.x.flagIn(0, 1), 0);
        s.fine("nothing has leaked", s.x.ship(0, 5), 5);
        s.x.sail(0, 1);
        s.fine("at sea, too", s.x.flagIn(0, 1), 0);
    }

    private static void tonsIn() {
        Sea s = Sea.of("tonsIn");
        s.fine("today", s.x.tonsIn(1, 0), 5);
        s.fine("1", s.x.tonsIn(1, 1), 3);
        s.fine("2", s.x.tonsIn(1, 2), 1);
        s.fine("3", s.x.tonsIn(1, 3), 0);
        s.fine("99", s.x.tonsIn(1, 99), 0);
        s.none("100", s.x.tonsIn(1, 100), 1);
        s.none("-1", s.x.tonsIn(1, -1), 1);
        s.none("no ship", s.x.tonsIn(-1, 1), 1);
    }

    private static void turns() {
        Sea s = Sea.of("turns");
        s.fine("one", s.x.turns(0), 1);
        s.fine("two, when it is empty", s.x.turns(1), 3);
        s.none("an empty one never", s.x.turns(2), 6);
        s.none("no ship", s.x.turns(3), 1);
        s.none("no ship", s.x.turns(-1), 1);
        Sea t = new Sea("turns by captains");
        String w = "nation a;nation b;nation c;good g of a worth 1 leaks 1;good h of b worth 1 leaks 1;good i of c worth 1;port p;ship s at p hold 60;";
        t.world(w + "aboard s g 9;aboard s h 9;aboard s i 3;");
        t.fine("two captains, then three: lawless stays lawless", t.x.turns(0), 6);
        t.world(w + "aboard s i 60;");
        t.none("never", t.x.turns(0), 6);
        t.world(w + "aboard s g 60;");
        t.fine("in 60", t.x.turns(0), 60);
    }

    private static void flags() {
        Sea s = new Sea("flags");
        // Tons of a: 9 8 7 6 .. 0, of b: 8 8 8 .., of a's other good none: a, lawless, b.
        s.world("nation a;nation b;good g of a worth 1 leaks 1;good h of b worth 1;port p;ship s at p hold 60;aboard s g 9;aboard s h 8;");
        s.fine("today", s.x.flags(0, 0), 1);
        s.fine("lawless ones not", s.x.flags(0, 1), 1);
        s.fine("b, too", s.x.flags(0, 2), 2);
        s.fine("no more", s.x.flags(0, 99), 2);
        s.none("100", s.x.flags(0, 100), 1);
        s.none("-1", s.x.flags(0, -1), 1);
        s.none("no ship", s.x.flags(1, 0), 1);
        // a 4 3 2 1 0, b 5 3 1 0: b, lawless, a, a, none.
        s.world("nation a;nation b;good g of a worth 1 leaks 1;good h of b worth 1 leaks 2;port p;ship s at p hold 60;aboard s g 4;aboard s h 5;");
        s.fine("b, a", s.x.flags(0, 9), 2);
        // By kinds: a has two goods, one gone at once; b one: a, lawless, then b's is gone: a again.
        s.world("nation a;nation b;good g of a worth 1 leaks 9;good h of b worth 1 leaks 1;good i of a worth 1;port p;ship s at p hold 60;"
            + "aboard s g 1;aboard s h 3;aboard s i 1;rule 1;");
        s.fine("a", s.x.flags(0, 2), 1);
        s.fine("as often as it begins", s.x.flags(0, 3), 2);
        s.fine("as often as it begins", s.x.flags(0, 99), 2);
        s = Sea.of("flags of none");
        s.fine("empty", s.x.flags(2, 99), 0);
    }

    private static void wages() {
        Sea s = new Sea("wages");
        s.world("nation a wage 3;nation b wage 7;good g of a worth 1 leaks 1;good h of b worth 1;port p;ship s at p hold 60 coins 0;aboard s g 9;aboard s h 8;");
        s.fine("no day", s.x.wages(0, 0), 0);
        s.fine("a", s.x.wages(0, 1), 3);
        s.fine("lawless", s.x.wages(0, 2), 3);
        s.fine("b", s.x.wages(0, 3), 10);
        s.fine("far", s.x.wages(0, 99), 3 + 97 * 7);
        s.none("100", s.x.wages(0, 100), 1);
        s.none("-1", s.x.wages(0, -1), 1);
        s.none("no ship", s.x.wages(1, 0), 1);
    }

    private static void stowaway() {
        Sea s = Sea.of("stowaway");
        s.fine("a ton of rum makes it even", s.x.stowaway(0), 1);
        s.fine("rum", s.x.stowawayGood(0), 0);
        s.fine("five tons", s.x.stowaway(1), 5);
        s.fine("rum is the first", s.x.stowawayGood(1), 0);
        s.fine("empty: any ton", s.x.stowaway(2), 1);
        s.none("no ship", s.x.stowaway(3), 1);
        s.none("no ship", s.x.stowawayGood(-1), 1);
        s.x.rule(1);
        s.fine("a new kind", s.x.stowaway(1), 1);
        s.fine("rum", s.x.stowawayGood(1), 0);
        s.x.rule(2);
        s.fine("20 of tea against rum: two", s.x.stowaway(1), 2);
        Sea t = new Sea("stowaway of none");
        String w = "nation a;nation b;good g of a worth 1;good h of b worth 1;port p;ship s at p hold 60;";
        t.world(w + "aboard s g 60;");
        t.fine("60, beyond the hold", t.x.stowaway(0), 60);
        t.fine("h", t.x.stowawayGood(0), 1);
        t.world("nation a;good g of a worth 1;port p;ship s at p hold 60;aboard s g 1;");
        t.none("no other nation", t.x.stowaway(0), 6);
        t.none("no other nation", t.x.stowawayGood(0), 6);
        t.world("port p;ship s at p hold 60;");
        t.none("no goods", t.x.stowaway(0), 6);
        t.world("nation a;nation b;good g of a worth 2;good h of b worth 1;port p;ship s at p hold 60;aboard s g 31;rule 2;");
        t.none("62 would be needed", t.x.stowaway(0), 6);
        t.x.dump(0, 0, 1);
        t.fine("60", t.x.stowaway(0), 60);
    }

    private static void guard() {
        Sea s = Sea.of("guard");
        s.fine("4 tons more or fewer", s.x.guard(1, 4), 1);
        s.fine("5", s.x.guard(1, 5), 0);
        s.fine("60: all of it", s.x.guard(1, 60), 0);
        s.fine("one fewer makes it even", s.x.guard(0, 1), 0);
        s.fine("an empty one", s.x.guard(2, 1), 0);
        s.none("0", s.x.guard(0, 0), 1);
        s.none("61", s.x.guard(0, 61), 1);
        s.none("no ship", s.x.guard(3, 1), 1);
        Sea t = new Sea("guard by fewer");
        t.world("nation a;good g of a worth 1;port p;ship s at p hold 60;aboard s g 2;");
        t.fine("one fewer", t.x.guard(0, 1), 1);
        t.fine("two fewer: no captain", t.x.guard(0, 2), 0);
        t.fine("more than there are: all", t.x.guard(0, 3), 0);
        t.world("port p;ship s at p hold 60;");
        t.fine("no goods", t.x.guard(0, 1), 1);
        // Just so many tons: three fewer of h leave a alone, but it is even only by two.
        t.world("nation a;nation b;good g of a worth 1;good h of b worth 1;good i of b worth 1;port p;ship s at p hold 60;"
            + "aboard s g 5;aboard s h 1;aboard s i 3;");
        t.fine("one", t.x.guard(0, 1), 0);
    }

    private static void passFor() {
        Sea s = Sea.of("passFor");
        s.fine("ruled so", s.x.passFor(0, 1), 0);
        s.none("no good then", s.x.passGood(0, 1), 6);
        s.fine("red", s.x.passFor(0, 0), 2);
        s.fine("rum", s.x.passGood(0, 0), 0);
        s.fine("green", s.x.passFor(0, 2), 4);
        s.fine("fur", s.x.passGood(0, 2), 3);
        s.none("no ship", s.x.passFor(3, 0), 1);
        s.none("no nation", s.x.passFor(0, 3), 1);
        s.none("no ship", s.x.passGood(3, 0), 1);
        s.none("no nation", s.x.passGood(0, -1), 1);
        s.x.rule(2);
        s.fine("by worth blue: 20 - 12 by 4, one more", s.x.passFor(0, 1), 3);
        s.x.rule(1);
        s.fine("by kinds: oak", s.x.passFor(0, 0), 1);
        s.fine("by kinds: oak", s.x.passGood(0, 0), 2);
        s.none("no second kind of blue", s.x.passFor(0, 1), 6);
        s.none("no second kind of blue", s.x.passGood(0, 1), 6);
        Sea t = new Sea("passFor by the hold");
        String w = "nation a;nation b;nation c;good g of a worth 1;good h of b worth 1;port p;aboard s g 4;";
        t.world(w.replace("aboard", "ship s at p hold 9;aboard"));
        t.fine("five", t.x.passFor(0, 1), 5);
        t.none("no good of c", t.x.passFor(0, 2), 6);
        t.world(w.replace("aboard", "ship s at p hold 8;aboard"));
        t.none("no room", t.x.passFor(0, 1), 6);
        t.none("no room", t.x.passGood(0, 1), 6);
    }

    private static void peace() {
        Sea s = Sea.of("peace");
        s.none("rum: red, tea: blue", s.x.peace(0), 6);
        s.none("none", s.x.peaceCost(0), 6);
        s.x.trade(0, 3, 9);
        s.fine("fur: 5 of 10, red none ahead", s.x.peace(0), 3);
        s.fine("five at nine", s.x.peaceCost(0), 45);
        s.x.war(0, 1, false);
        s.fine("the cheapest", s.x.peace(0), 1);
        s.fine("five at three", s.x.peaceCost(0), 15);
        s.x.trade(0, 0, 3);
        s.fine("of several the first", s.x.peace(0), 0);
        s.x.war(2, 1, true);
        s.fine("rum", s.x.peace(0), 0);
        s.fine("coins do not matter", s.x.pay(0, -40), 0);
        s.fine("rum", s.x.peaceCost(0), 15);
        s.none("no ship", s.x.peace(3), 1);
        s.none("no ship", s.x.peaceCost(-1), 1);
        s.x.sail(0, 1);
        s.none("at sea", s.x.peace(0), 7);
        s.none("at sea", s.x.peaceCost(0), 7);
        Sea t = new Sea("peace, lawless");
        t.world("nation a;nation b;war a b;good g of a worth 1;good h of b worth 1;port p;price p h 7;ship s at p hold 8;aboard s g 4;");
        t.fine("even: lawless", t.x.peace(0), 1);
        t.fine("four at seven", t.x.peaceCost(0), 28);
    }

    private static void peaceOfAFullShip() {
        Sea s = new Sea("peace of a full ship");
        s.world("nation a;good g of a worth 1;good h of a worth 1;port p;price p h 7;ship s at p hold 4;aboard s g 4;");
        s.fine("the first that is traded", s.x.peace(0), 1);
        s.fine("for nothing", s.x.peaceCost(0), 0);
        s.x.trade(0, 1, 0);
        s.none("nothing is traded", s.x.peace(0), 6);
    }
}
