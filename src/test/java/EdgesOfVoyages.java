/** The sentences of the document on voyages, ways and logs (==== 3), and promises 54 to 62. */
final class EdgesOfVoyages {
    private static final String TWO = "nation a wage 0;good g of a worth 1;good h of a worth 1;port p;port q;port r;way p q days 1;";
    private static final int[] NO_SHIP = {-1, 1, Integer.MIN_VALUE, Integer.MAX_VALUE};
    private static final int[] NO_LEGS = {-1, 0, 4, Integer.MIN_VALUE, Integer.MAX_VALUE};

    private EdgesOfVoyages() {
    }

    static void tell(Sentences d) {
        tellTerms(d);
        tellPromises(d);
    }

    private static void tellTerms(Sentences d) {
        d.term("VOYAGE of n legs (1 to 3): on each leg the SHIP, in a PORT, SELLS all that is traded there, GOOD by GOOD,", EdgesOfVoyages::sellsAll);
        d.term("then BUYS of one GOOD as much as COINS and room allow (one ton at least; or nothing),", EdgesOfVoyages::asMuchAsAllowed);
        d.term("then SAILS to another PORT, DAY by DAY till it is there (other SHIPS do nothing);", EdgesOfVoyages::dayByDay);
        d.term("at the end it SELLS all that is traded: the most COINS it can have;", EdgesOfVoyages::atTheEnd);
        d.term("of several the first leg with the first PORT, then the first GOOD (none comes last).", EdgesOfVoyages::ofSeveral);
        d.term("WAY to a PORT: the fewest DAYS from PORT to PORT.", EdgesOfVoyages::fewestDays);
        d.term("LOG by a TRAY of n DAYS (1 to 20): of each DAY the NATION by which a SHIP was RULED (-1: LAWLESS):", EdgesOfVoyages::ofEachDay);
        d.term("it left with x tons of a GOOD and y tons of another one (x, y 1 to h, together no more than h, the first GOOD's number is the less), "
            + "and LEAKED: in how many ways (DAY 0 is ahead of any leaking).", EdgesOfVoyages::ways);
        d.term("in how many ways (DAY 0 is ahead of any leaking).", EdgesOfVoyages::waysByRule);
        d.term("SURE: the GOODS that are in all of these ways.", EdgesOfVoyages::inAllWays);
    }

    private static void tellPromises(Sentences d) {
        d.promise(54, "VOYAGE of n legs (1 to 3): COINS (1; 7: at SEA; 6: there is no WAY for a leg).", EdgesOfVoyages::voyage);
        d.promise(55, "Of the first leg of that what 0: the PORT, 1: the GOOD (NONE with STATUS 0: nothing is bought) (1; 7; 6).", EdgesOfVoyages::voyageAt);
        d.promise(56, "WAY from a PORT to another one: DAYS (0: the same) (1; 6: none).", EdgesOfVoyages::soonest);
        d.promise(57, "The first PORT behind the one on that, of several the first (1: one and itself, too; 6).", EdgesOfVoyages::next);
        d.promise(58, "The set of PORTS to which WAYS lead from a PORT (itself, too) (1).", EdgesOfVoyages::reach);
        d.promise(59, "The GOOD that gains the most for a ton between two PORTS (PRICE in the second less that in the first, above 0), "
            + "of several the first (1: one and itself, too; 6: none).", EdgesOfVoyages::best);
        d.promise(60, "LOG by the first n (1 to 20) numbers of a TRAY, h (2 to 60): in how many ways (1; 2; 3; 5: no NATION, nor -1).", EdgesOfVoyages::log);
        d.promise(61, "SURE by that: a set (1; 2; 3; 5; 6: there is no way).", EdgesOfVoyages::sure);
        d.promise(62, "FLAGS of a SHIP in the next n (1 to 20) DAYS by LEAKS alone, DAY 0 first, come to a TRAY as a LOG: n (1; 2; 3).", EdgesOfVoyages::copyLog);
    }

    private static void sellsAll(Sea s) {
        s.world(TWO + "price p g 5;price p h 7;ship s at p hold 20 coins 1;aboard s g 10;aboard s h 10;");
        s.fine("both are sold", s.x.voyage(0, 1), 121);
        s.x.trade(0, 1, 0);
        s.fine("what is not traded stays", s.x.voyage(0, 1), 51);
        s.x.trade(1, 1, 2);
        s.fine("it is sold at the end", s.x.voyage(0, 1), 71);
        s.x.trade(0, 0, 0);
        s.fine("on the second leg: h in q", s.x.voyage(0, 2), 21);
        s.x.trade(0, 0, 99);
        s.x.pay(0, 9998);
        s.fine("9,999 at most", s.x.voyage(0, 3), 9999);
    }

    private static void asMuchAsAllowed(Sea s) {
        s.world(TWO + "price p g 3;price q g 10;ship s at p hold 20 coins 2;");
        s.fine("not a ton", s.x.voyage(0, 1), 2);
        s.fine("so nothing", s.x.voyageAt(0, 1, 1), -1);
        s.x.pay(0, 1);
        s.fine("just a ton", s.x.voyage(0, 1), 10);
        s.fine("g", s.x.voyageAt(0, 1, 1), 0);
        s.x.pay(0, 58);
        s.fine("20 tons for 60, a coin left", s.x.voyage(0, 1), 201);
        s.x.pay(0, 1);
        s.fine("no room for more", s.x.voyage(0, 1), 202);
        s.world(TWO + "price p g 3;price q g 10;ship s at p hold 20 coins 60;aboard s h 19;");
        s.fine("room for one", s.x.voyage(0, 1), 67);
        s.world(TWO + "price p g 3;price q g 10;ship s at p hold 20 coins 60;aboard s h 20;");
        s.fine("no room", s.x.voyage(0, 1), 60);
        s.fine("so nothing", s.x.voyageAt(0, 1, 1), -1);
        s.world(TWO + "price p g 3;price q g 1;ship s at p hold 20 coins 60;");
        s.fine("or nothing", s.x.voyage(0, 1), 60);
    }

    private static void dayByDay(Sea s) {
        // 60 tons for 60; wages of 20 on two days, 11 left pay no third; 9 tons a day leak: 33 at 9; no duty, as it is a's.
        s.world("nation a wage 20 duty 9;nation b;good g of a worth 1 leaks 9;good h of b worth 1 leaks 1;port p;port q of a;way p q days 3;"
            + "price p g 1;price q g 9;ship s at p hold 60 coins 111;ship t at p hold 60;aboard t h 9;");
        s.x.sail(1, 1);
        String was = s.all();
        s.fine("wages, leaks", s.x.voyage(0, 1), 11 + 33 * 9);
        s.fine("the port", s.x.voyageAt(0, 1, 0), 1);
        s.same("other ships do nothing, no day goes by", s.all(), was);
        s.x.pay(0, -82);
        // 29 tons for 29, no wage can be paid; 2 tons are left: 18 coins.
        s.fine("nothing is better", s.x.voyage(0, 1), 29);
        s.fine("nothing", s.x.voyageAt(0, 1, 1), -1);
        s.x.trade(1, 0, 15);
        s.fine("2 at 15 are better than 29", s.x.voyage(0, 1), 30);
        s.world("nation a wage 20 duty 9;nation b wage 1;good h of b worth 1;port p;port q of a;way p q days 3;ship s at p hold 60 coins 50;aboard s h 5;");
        s.fine("three wages of 1, a duty of 45 from 47", s.x.voyage(0, 1), 2);
        s.x.pay(0, -20);
        s.fine("all coins", s.x.voyage(0, 1), 0);
    }

    private static void atTheEnd(Sea s) {
        s.world(TWO + "way q r days 1;price p g 1;price q g 2;price q h 3;price r h 9;ship s at p hold 10 coins 10;");
        s.fine("10 of g: 20", s.x.voyage(0, 1), 20);
        s.fine("then six of h: 2 + 54", s.x.voyage(0, 2), 56);
        // Over q again: p-q 20, q-p 20, p-q 20 + 10; or p-q-r 56 and back with nothing.
        s.fine("and back", s.x.voyage(0, 3), 56);
    }

    private static void ofSeveral(Sea s) {
        s.world(TWO + "way p r days 1;way q r days 1;ship s at p hold 10 coins 10;");
        s.fine("nothing gains", s.x.voyage(0, 2), 10);
        s.fine("the first port", s.x.voyageAt(0, 2, 0), 1);
        s.fine("none, as nothing is traded", s.x.voyageAt(0, 2, 1), -1);
        s.x.trade(0, 0, 2);
        s.x.trade(0, 1, 2);
        s.x.trade(1, 1, 2);
        s.fine("all the same", s.x.voyage(0, 1), 10);
        s.fine("the first port", s.x.voyageAt(0, 1, 0), 1);
        s.fine("h or nothing: h", s.x.voyageAt(0, 1, 1), 1);
        s.x.trade(1, 0, 2);
        s.fine("g, h or nothing: g", s.x.voyageAt(0, 1, 1), 0);
        s.x.trade(2, 1, 3);
        s.fine("r gains", s.x.voyageAt(0, 1, 0), 2);
        s.fine("by h", s.x.voyageAt(0, 1, 1), 1);
        s.x.trade(2, 0, 3);
        s.fine("by g as much", s.x.voyageAt(0, 1, 1), 0);
        s.world(TWO.replace("port p;port q;port r;", "port q;port p;port r;") + "way p r days 1;ship s at p hold 10 coins 10;");
        s.fine("port 0 is the first", s.x.voyageAt(0, 1, 0), 0);
    }

    private static void fewestDays(Sea s) {
        s.world("port a;port b;port c;port d;port e;port f;way a b days 20;way b c days 20;way c d days 20;way d e days 20;way e f days 20;");
        s.fine("100", s.x.soonest(0, 5), 100);
        s.fine("back", s.x.soonest(5, 0), 100);
        s.fine("the next", s.x.next(0, 5), 1);
        s.world("port a;port b;port c;port d;way a d days 20;way a b days 6;way b c days 6;way c d days 7;");
        s.fine("19 by three", s.x.soonest(0, 3), 19);
        s.world("port a;port b;port c;port d;way a d days 18;way a b days 6;way b c days 6;way c d days 7;");
        s.fine("18 by one", s.x.soonest(0, 3), 18);
    }

    private static void tray(Sea s, int tray, int sort, long... numbers) {
        s.x.tray(tray, sort, numbers.length);
        for (int i = 0; i < numbers.length; i++) {
            s.x.write(tray, i, numbers[i]);
        }
    }

    private static void ofEachDay(Sea s) {
        s.world("nation a;nation b;good g of a worth 1 leaks 1;good h of b worth 1;");
        // g 20 19 .. 1: a's as long as it is more than h's one ton.
        long[] flags = new long[20];
        flags[19] = -1;
        tray(s, 0, 0, flags);
        s.fine("20 days: 20 and 1 alone by 21", s.x.log(0, 20, 21), 1);
        s.fine("by 22 there is no other, by 23 there is 21 and 2", s.x.log(0, 20, 23), 2);
        s.fine("not by 20", s.x.log(0, 20, 20), 0);
        s.fine("19 days: 20 or more and 1", s.x.log(0, 19, 21), 1);
        s.fine("a single day: a", s.x.log(0, 1, 2), 0);
        s.fine("a single day: 2 and 1", s.x.log(0, 1, 3), 1);
        tray(s, 1, 3, -1);
        s.fine("lawless: 1 and 1", s.x.log(1, 1, 2), 1);
    }

    private static void ways(Sea s) {
        s.world("nation a;good g of a worth 1;good h of a worth 1;good i of a worth 1;");
        tray(s, 0, 0, 0);
        s.fine("h 2: 1 and 1, of three pairs", s.x.log(0, 1, 2), 3);
        s.fine("h 3: three ways each", s.x.log(0, 1, 3), 9);
        s.fine("h 60: 1,770 each", s.x.log(0, 1, 60), 5310);
        s.world("nation a;nation b;good g of a worth 1 leaks 9;good h of b worth 1;");
        s.fine("day 0 is ahead of any leaking: 2 and 1", s.x.log(0, 1, 3), 1);
        tray(s, 0, 0, 0, 1);
        s.fine("then it has leaked", s.x.log(0, 2, 3), 1);
        tray(s, 0, 0, 1, 1);
        s.fine("1 and 2", s.x.log(0, 2, 3), 1);
        s.world("nation a;nation b;good g of a worth 1 leaks 9;good h of a worth 1 leaks 9;");
        tray(s, 0, 0, 0, -1);
        s.fine("all is gone in a day, up to 9 and 9", s.x.log(0, 2, 60), 81);
        s.world("nation a;good g of a worth 1;");
        s.fine("one good alone", s.x.log(0, 1, 60), 0);
    }

    private static void waysByRule(Sea s) {
        s.world("nation a;nation b;good g of a worth 3;good h of b worth 2 leaks 1;rule 2;");
        tray(s, 0, 0, -1);
        s.fine("by worth even: 2 and 3, 4 and 6", s.x.log(0, 1, 10), 2);
        tray(s, 0, 0, 0);
        s.fine("by worth a: 1 and 1, 2 and 1, 2 and 2, 3 and 1", s.x.log(0, 1, 4), 4);
        tray(s, 0, 0, 1);
        s.fine("by worth b: 1 and 2, 1 and 3", s.x.log(0, 1, 4), 2);
        s.x.rule(1);
        s.fine("by kinds never b", s.x.log(0, 1, 60), 0);
        tray(s, 0, 0, -1);
        s.fine("by kinds even: all", s.x.log(0, 1, 60), 1770);
        tray(s, 0, 0, -1, 0);
        s.fine("by kinds a, as h is gone: 1 of it, 1 to 59 of g", s.x.log(0, 2, 60), 59);
        tray(s, 0, 0, -1, -1, 0);
        s.fine("in two days: 2 of it, 1 to 58 of g", s.x.log(0, 3, 60), 58);
        s.x.rule(0);
        tray(s, 0, 0, -1);
        s.fine("by tons even", s.x.log(0, 1, 60), 30);
    }

    private static void inAllWays(Sea s) {
        s.world("nation a;nation b;good g of a worth 1;good h of b worth 1;good i of b worth 1;");
        tray(s, 0, 0, 0);
        s.fine("g with h, g with i", s.x.log(0, 1, 3), 2);
        s.fine("g", s.x.sure(0, 1, 3), 1);
        tray(s, 0, 0, 1);
        s.fine("h with i alone", s.x.log(0, 1, 2), 1);
        s.fine("h, i", s.x.sure(0, 1, 2), 6);
        s.fine("h with i, g with h, g with i", s.x.log(0, 1, 3), 5);
        s.fine("none is in all", s.x.sure(0, 1, 3), 0);
        StringBuilder eight = new StringBuilder("nation a;nation b;");
        for (int i = 0; i < 8; i++) {
            eight.append("good g").append((char) ('a' + i)).append(i < 6 ? " of a" : " of b").append(" worth 1;");
        }
        s.world(eight.toString());
        s.fine("the last two", s.x.log(0, 1, 2), 1);
        s.fine("the last two", s.x.sure(0, 1, 2), 192);
    }

    // ---- promises

    private static void voyage(Sea s) {
        s.world(TWO + "price p g 1;price q g 2;ship s at p hold 60 coins 10;");
        for (int no : NO_LEGS) {
            s.none("legs " + no, s.x.voyage(0, no), 1);
        }
        for (int no : NO_SHIP) {
            s.none("ship " + no, s.x.voyage(no, 1), 1);
        }
        s.fine("1", s.x.voyage(0, 1), 20);
        s.fine("2", s.x.voyage(0, 2), 20);
        s.fine("3", s.x.voyage(0, 3), 40);
        s.x.sail(0, 1);
        s.none("at sea", s.x.voyage(0, 1), 7);
        s.none("at sea", s.x.voyage(0, 3), 7);
        s.world(TWO + "price r g 1;ship s at r hold 60 coins 10;aboard s g 1;");
        s.none("no way for a leg", s.x.voyage(0, 1), 6);
        s.none("no way for a leg", s.x.voyage(0, 3), 6);
    }

    private static void voyageAt(Sea s) {
        s.world(TWO + "price p g 1;price q g 2;ship s at p hold 60 coins 10;");
        for (int no : NO_LEGS) {
            s.none("legs " + no, s.x.voyageAt(0, no, 0), 1);
        }
        for (int no : NO_SHIP) {
            s.none("ship " + no, s.x.voyageAt(no, 1, 0), 1);
        }
        for (int no : new int[] {-1, 2, Integer.MIN_VALUE, Integer.MAX_VALUE}) {
            s.none("what " + no, s.x.voyageAt(0, 1, no), 1);
        }
        for (int legs = 1; legs <= 3; legs++) {
            s.fine("the port", s.x.voyageAt(0, legs, 0), 1);
            s.fine("the good", s.x.voyageAt(0, legs, 1), 0);
        }
        s.x.trade(1, 0, 0);
        s.fine("nothing is bought", s.x.voyageAt(0, 1, 1), -1);
        s.x.sail(0, 1);
        s.none("at sea", s.x.voyageAt(0, 1, 1), 7);
        s.world(TWO + "ship s at r hold 60 coins 10;");
        s.none("no way", s.x.voyageAt(0, 1, 0), 6);
        s.none("no way", s.x.voyageAt(0, 2, 1), 6);
    }

    private static final String SIX = "port a;port b;port c;port d;port e;port f;way a b days 5;way b c days 5;way a d days 4;way d c days 6;way e f days 20;";

    private static void soonest(Sea s) {
        s.world(SIX);
        s.fine("10", s.x.soonest(0, 2), 10);
        s.fine("20", s.x.soonest(5, 4), 20);
        s.fine("9", s.x.soonest(1, 3), 9);
        for (int p = 0; p < 6; p++) {
            s.fine("the same", s.x.soonest(p, p), 0);
        }
        s.none("none", s.x.soonest(0, 4), 6);
        s.none("none", s.x.soonest(5, 3), 6);
        for (int no : new int[] {-1, 6, Integer.MIN_VALUE, Integer.MAX_VALUE}) {
            s.none("port " + no, s.x.soonest(no, 0), 1);
            s.none("port " + no, s.x.soonest(0, no), 1);
            s.none("no port and itself", s.x.soonest(no, no), 1);
        }
    }

    private static void next(Sea s) {
        s.world(SIX);
        s.fine("b or d: b", s.x.next(0, 2), 1);
        s.fine("b or d: b", s.x.next(2, 0), 1);
        s.fine("over a", s.x.next(1, 3), 0);
        s.fine("at once", s.x.next(4, 5), 5);
        s.none("none", s.x.next(0, 5), 6);
        for (int p = 0; p < 6; p++) {
            s.none("itself", s.x.next(p, p), 1);
        }
        for (int no : new int[] {-1, 6, Integer.MIN_VALUE, Integer.MAX_VALUE}) {
            s.none("port " + no, s.x.next(no, 0), 1);
            s.none("port " + no, s.x.next(0, no), 1);
        }
        s.world("port a;port b;port c;way b a days 2;way b c days 1;way c a days 1;");
        s.fine("a at once, or over c: a is the first", s.x.next(1, 0), 0);
        s.fine("b at once, or over c: b is the first", s.x.next(0, 1), 1);
        s.fine("by a way of one day", s.x.next(2, 1), 1);
        s.fine("by a way of one day", s.x.next(0, 2), 2);
    }

    private static void reach(Sea s) {
        s.world(SIX);
        int[] due = {15, 15, 15, 15, 48, 48};
        for (int p = 0; p < 6; p++) {
            s.fine("from " + p, s.x.reach(p), due[p]);
        }
        for (int no : new int[] {-1, 6, Integer.MIN_VALUE, Integer.MAX_VALUE}) {
            s.none("port " + no, s.x.reach(no), 1);
        }
        s.world("port a;port b;");
        s.fine("itself alone", s.x.reach(0), 1);
        s.fine("itself alone", s.x.reach(1), 2);
        s.world("port a;port b;port c;port d;port e;port f;way f e days 1;way e d days 1;way d c days 1;way c b days 1;way b a days 1;");
        s.fine("all, over all", s.x.reach(5), 63);
        s.fine("all, over all", s.x.reach(0), 63);
    }

    private static void best(Sea s) {
        s.world("nation n;good f of n worth 1;good g of n worth 1;good h of n worth 1;port p;port q;"
            + "price p f 98;price q f 99;price p g 5;price q g 5;price p h 1;");
        s.fine("a gain of 1", s.x.best(0, 1), 0);
        s.none("none back: a loss, even, not traded", s.x.best(1, 0), 6);
        s.x.trade(1, 1, 6);
        s.fine("of several the first", s.x.best(0, 1), 0);
        s.x.trade(1, 1, 7);
        s.fine("the most", s.x.best(0, 1), 1);
        s.x.trade(1, 2, 99);
        s.fine("98", s.x.best(0, 1), 2);
        s.x.trade(0, 2, 0);
        s.fine("not traded in the first", s.x.best(0, 1), 1);
        s.none("nor in the second", s.x.best(1, 0), 6);
        for (int p = 0; p < 2; p++) {
            s.none("itself", s.x.best(p, p), 1);
        }
        for (int no : new int[] {-1, 2, Integer.MIN_VALUE, Integer.MAX_VALUE}) {
            s.none("port " + no, s.x.best(no, 0), 1);
            s.none("port " + no, s.x.best(0, no), 1);
        }
    }

    private interface ByTray {
        int of(int tray, int n, int h);
    }

    private static void refusedLogs(Sea s, ByTray call) {
        s.world("nation a;nation b;good g of a worth 1;good h of b worth 1;");
        for (int no : new int[] {-1, 4, Integer.MIN_VALUE, Integer.MAX_VALUE}) {
            s.none("tray " + no, call.of(no, 1, 2), 1);
        }
        for (int no : new int[] {-1, 0, 21, Integer.MIN_VALUE, Integer.MAX_VALUE}) {
            s.none("n " + no, call.of(0, no, 2), 1);
        }
        for (int no : new int[] {-1, 0, 1, 61, Integer.MIN_VALUE, Integer.MAX_VALUE}) {
            s.none("h " + no, call.of(0, 1, no), 1);
        }
        s.none("missing", call.of(0, 1, 2), 2);
        s.x.tray(0, 0, 0);
        s.none("an empty tray", call.of(0, 1, 2), 3);
        s.x.tray(0, 0, 19);
        s.none("19 of 20", call.of(0, 20, 2), 3);
        tray(s, 1, 1, -1, 2);
        s.none("nation 2", call.of(1, 2, 2), 5);
        tray(s, 1, 1, -1, -2);
        s.none("-2", call.of(1, 2, 2), 5);
        tray(s, 2, 3, 1L << 32);
        s.none("beyond 32 bits", call.of(2, 1, 2), 5);
        tray(s, 2, 3, (1L << 32) - 1);
        s.none("beyond 32 bits", call.of(2, 1, 2), 5);
        tray(s, 2, 3, Long.MIN_VALUE);
        s.none("far", call.of(2, 1, 2), 5);
    }

    private static void log(Sea s) {
        refusedLogs(s, (tray, n, h) -> s.x.log(tray, n, h));
        tray(s, 1, 1, -1, 2);
        s.fine("the second is not asked for", s.x.log(1, 1, 2), 1);
        s.x.tray(3, 2, 60);
        s.fine("20 of 60, h 60: x above y", s.x.log(3, 20, 60), 870);
        s.fine("h 2: no way", s.x.log(3, 1, 2), 0);
        s.x.tray(3, 2, 20);
        s.fine("20 of 20", s.x.log(3, 20, 60), 870);
        s.x.write(3, 19, 1);
        s.fine("the last day counts", s.x.log(3, 20, 60), 0);
        s.x.world(0);
        s.none("no nations at all", s.x.log(3, 1, 2), 5);
        s.x.write(3, 0, -1);
        s.fine("-1 can be, by no way", s.x.log(3, 1, 2), 0);
    }

    private static void sure(Sea s) {
        refusedLogs(s, (tray, n, h) -> s.x.sure(tray, n, h));
        tray(s, 1, 1, -1, 2);
        s.fine("the second is not asked for", s.x.sure(1, 1, 2), 3);
        s.x.tray(3, 2, 20);
        s.fine("20 of 20", s.x.sure(3, 20, 60), 3);
        s.none("there is no way", s.x.sure(3, 20, 2), 6);
        s.x.world(0);
        s.x.write(3, 0, -1);
        s.none("there is no way", s.x.sure(3, 1, 60), 6);
    }

    private static void copyLog(Sea s) {
        s.world("nation a;nation b;good g of a worth 1 leaks 1;good h of b worth 1;port p;ship s at p hold 60;aboard s g 20;aboard s h 2;");
        for (int no : NO_SHIP) {
            s.none("ship " + no, s.x.copyLog(no, 0, 1), 1);
        }
        for (int no : new int[] {-1, 4, Integer.MIN_VALUE, Integer.MAX_VALUE}) {
            s.none("tray " + no, s.x.copyLog(0, no, 1), 1);
        }
        for (int no : new int[] {-1, 0, 21, Integer.MIN_VALUE, Integer.MAX_VALUE}) {
            s.none("n " + no, s.x.copyLog(0, 0, no), 1);
        }
        s.none("missing", s.x.copyLog(0, 0, 1), 2);
        s.x.tray(0, 0, 19);
        s.x.write(0, 0, 77);
        s.none("too few", s.x.copyLog(0, 0, 20), 3);
        s.fine("nothing came", s.x.read(0, 0), 77);
        s.x.tray(0, 0, 21);
        s.x.write(0, 20, 77);
        s.fine("20", s.x.copyLog(0, 0, 20), 20);
        for (int d = 0; d < 20; d++) {
            s.fine("day " + d, s.x.read(0, d), d < 18 ? 0 : d == 18 ? -1 : 1);
        }
        s.fine("the rest stays", s.x.read(0, 20), 77);
        s.fine("nothing leaked", s.x.ship(0, 5), 22);
        s.x.dump(0, 0, 20);
        s.fine("1", s.x.copyLog(0, 0, 1), 1);
        s.fine("day 0", s.x.read(0, 0), 1);
        s.fine("the others stay", s.x.read(0, 1), 0);
        s.x.dump(0, 1, 2);
        s.x.tray(3, 3, 1);
        s.fine("an empty one", s.x.copyLog(0, 3, 1), 1);
        s.fine("lawless", s.x.read(3, 0), -1);
    }
}
