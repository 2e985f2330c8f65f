/** The sentences of the document on what would be (==== 3), and promises 42 to 53. */
final class EdgesOfOutlook {
    /* a's good leaks one ton a day, b's none: with 60 and 30 tons it is a's for 30 days, lawless on the 30th, then b's. */
    private static final String LONG = "nation a wage 3;nation b wage 20;nation c;good g of a worth 1 leaks 1;good h of b worth 1;good i of c worth 2 leaks 9;"
        + "port p;port q;way p q days 2;";
    private static final int[] NO_DAYS = {-1, 100, Integer.MIN_VALUE, Integer.MAX_VALUE};
    private static final int[] NO_SHIP = {-1, 1, Integer.MIN_VALUE, Integer.MAX_VALUE};

    private EdgesOfOutlook() {
    }

    static void tell(Sentences d) {
        tellTerms(d);
        tellPromises(d);
    }

    private static void tellTerms(Sentences d) {
        d.term("FLAG in n DAYS (0 to 99): by what a SHIP is RULED then, if it only LEAKS.", EdgesOfOutlook::onlyLeaks);
        d.term("TURNS: in how many DAYS first its CAPTAINS are others than now.", EdgesOfOutlook::captainsAreOthers);
        d.term("STOWAWAY: the fewest tons (1 to 60; the HOLD does not matter) of one GOOD more by which its CAPTAINS are others; of several GOODS the first.",
            EdgesOfOutlook::fewestTons);
        d.term("GUARD of n tons: no n tons of one GOOD more, and no n tons of one GOOD fewer (all of it, if there is less) make them others.",
            EdgesOfOutlook::moreOrFewer);
        d.term("PASS for a NATION: the fewest tons of one GOOD (RULE, HOLD minded; COINS, PRICES not) to be put aboard so that it is RULED by that; "
            + "of several the first GOOD.", EdgesOfOutlook::passMinds);
        d.term("PEACE: the GOOD traded in the PORT where a SHIP lies by which, the HOLD filled up by that (what is aboard stays), "
            + "it is LAWLESS or RULED by a NATION at no WAR at all:", EdgesOfOutlook::holdFilledUp);
        d.term("that with the least COST; of several the first (COINS do not matter).", EdgesOfOutlook::leastCost);
    }

    private static void tellPromises(Sentences d) {
        d.promise(42, "FLAG in so many DAYS (1; 6: LAWLESS).", EdgesOfOutlook::flagIn);
        d.promise(43, "Tons aboard in so many DAYS, by LEAKS alone (0 to 99) (1).", EdgesOfOutlook::tonsIn);
        d.promise(44, "TURNS: DAYS (1 to 99) (1; 6: not in 99).", EdgesOfOutlook::turns);
        d.promise(45, "How many NATIONS a SHIP is RULED by, one after the other, today and in the next so many (0 to 99) DAYS, by LEAKS alone",
            EdgesOfOutlook::flags);
        d.promise(45, "(each counted as often as it begins; LAWLESS ones not) (1).", EdgesOfOutlook::asOftenAsItBegins);
        d.promise(46, "WAGES that a SHIP would have to pay in so many (0 to 99) DAYS at SEA, by LEAKS alone (1).", EdgesOfOutlook::wages);
        d.promise(47, "STOWAWAY: tons (1; 6: none in 60).", EdgesOfOutlook::stowaway);
        d.promise(48, "The GOOD of STOWAWAY (1; 6).", EdgesOfOutlook::stowawayGood);
        d.promise(49, "1 if a SHIP has a GUARD of n (1 to 60) tons, else 0 (1).", EdgesOfOutlook::guard);
        d.promise(50, "PASS for a NATION: tons (0: it is RULED so) (1; 6: by none).", EdgesOfOutlook::passFor);
        d.promise(51, "The GOOD of that (1; 6: none, 0 tons, too).", EdgesOfOutlook::passGood);
        d.promise(52, "PEACE: the GOOD (1; 7: at SEA; 6: none).", EdgesOfOutlook::peace);
        d.promise(53, "What that COSTS (1; 7; 6).", EdgesOfOutlook::peaceCost);
    }

    private static void onlyLeaks(Sea s) {
        s.world(LONG + "ship s at p hold 60 coins 5;aboard s g 40;aboard s h 20;");
        s.fine("today", s.x.flagIn(0, 0), 0);
        s.fine("19", s.x.flagIn(0, 19), 0);
        s.none("20", s.x.flagIn(0, 20), 6);
        s.fine("21", s.x.flagIn(0, 21), 1);
        s.fine("99", s.x.flagIn(0, 99), 1);
        s.x.sail(0, 1);
        s.fine("at sea no port, no coins are minded", s.x.flagIn(0, 99), 1);
        s.fine("nothing leaked", s.x.ship(0, 5), 60);
        s.fine("no day went by", s.x.told(5), 0);
    }

    private static void captainsAreOthers(Sea s) {
        s.world(LONG + "ship s at p hold 60;aboard s g 2;aboard s h 1;");
        s.fine("a, then both", s.x.turns(0), 1);
        s.world(LONG + "ship s at p hold 60;aboard s g 20;aboard s h 20;");
        s.fine("both, then b", s.x.turns(0), 1);
        s.world(LONG + "ship s at p hold 60;aboard s i 18;aboard s h 18;aboard s g 18;rule 1;");
        s.fine("all three by kinds, then two: lawless as it was, by others", s.x.turns(0), 2);
        s.world(LONG + "ship s at p hold 60;aboard s g 1;");
        s.fine("a, then none", s.x.turns(0), 1);
        s.world(LONG + "ship s at p hold 60;aboard s i 60;");
        s.fine("seven days", s.x.turns(0), 7);
    }

    private static void fewestTons(Sea s) {
        s.world(LONG + "ship s at p hold 60;aboard s g 60;");
        s.fine("60, with a full hold", s.x.stowaway(0), 60);
        s.fine("of h and i the first", s.x.stowawayGood(0), 1);
        s.x.rule(2);
        s.fine("30 of i", s.x.stowaway(0), 30);
        s.fine("i", s.x.stowawayGood(0), 2);
        s.x.rule(1);
        s.fine("one of another kind", s.x.stowaway(0), 1);
        s.fine("h", s.x.stowawayGood(0), 1);
        s.world(LONG + "ship s at p hold 1;");
        s.fine("one ton of an empty one", s.x.stowaway(0), 1);
        s.fine("the first good", s.x.stowawayGood(0), 0);
        s.world(LONG + "ship s at p hold 60;aboard s g 5;aboard s h 5;");
        s.fine("one of two even ones", s.x.stowaway(0), 1);
        s.fine("g", s.x.stowawayGood(0), 0);
    }

    private static void moreOrFewer(Sea s) {
        s.world(LONG + "ship s at p hold 60;aboard s g 30;aboard s h 20;");
        for (int n : new int[] {1, 9, 10, 11, 20, 29, 30, 31, 60}) {
            s.fine("guard of " + n, s.x.guard(0, n), n < 10 ? 1 : 0);
        }
        s.world(LONG + "ship s at p hold 60;aboard s g 3;");
        s.fine("two fewer, two more of h", s.x.guard(0, 2), 1);
        s.fine("three fewer: none", s.x.guard(0, 3), 0);
        s.fine("all of it, if there is less", s.x.guard(0, 4), 0);
        s.world("nation a;good g of a worth 1;port p;ship s at p hold 60;aboard s g 60;");
        s.fine("59 fewer", s.x.guard(0, 59), 1);
        s.fine("all fewer", s.x.guard(0, 60), 0);
        s.x.dump(0, 0, 1);
        s.fine("all of it, if there is less", s.x.guard(0, 60), 0);
        // By kinds: a has two, b one; as long as a ton of each stays, nothing turns it.
        s.world("nation a;nation b;good g of a worth 1;good h of b worth 1;good i of a worth 1;port p;ship s at p hold 60;"
            + "aboard s g 9;aboard s i 9;aboard s h 9;rule 1;");
        s.fine("eight", s.x.guard(0, 8), 1);
        s.fine("nine: g is gone, even", s.x.guard(0, 9), 0);
        s.world(LONG + "ship s at p hold 60;aboard s g 60;");
        s.fine("59 more of h", s.x.guard(0, 59), 1);
        s.fine("60 more of h, beyond the hold", s.x.guard(0, 60), 0);
        s.world("nation a;nation b;good g of a worth 1;good h of b worth 1;port p;ship s at p hold 60;aboard s g 10;aboard s h 20;");
        s.fine("10 fewer of h: even", s.x.guard(0, 10), 0);
        s.fine("9", s.x.guard(0, 9), 1);
    }

    private static void passMinds(Sea s) {
        s.world(LONG + "ship s at p hold 10 coins 0;aboard s g 4;");
        s.fine("b: five of h, without coins or prices", s.x.passFor(0, 1), 5);
        s.fine("h", s.x.passGood(0, 1), 1);
        s.x.rule(2);
        s.fine("c by worth: three of i", s.x.passFor(0, 2), 3);
        s.x.rule(1);
        s.none("by kinds there is no second one of b", s.x.passFor(0, 1), 6);
        s.world(LONG + "ship s at p hold 9;aboard s g 4;");
        s.fine("just the hold", s.x.passFor(0, 1), 5);
        s.world(LONG + "ship s at p hold 8;aboard s g 4;");
        s.none("a ton too few", s.x.passFor(0, 1), 6);
        s.world(LONG.replace("good i of c", "good i of b") + "ship s at p hold 60;aboard s g 4;");
        s.fine("h and i: five of both", s.x.passFor(0, 1), 5);
        s.fine("the first", s.x.passGood(0, 1), 1);
        s.x.rule(2);
        s.fine("three of i are fewer", s.x.passFor(0, 1), 3);
        s.fine("i", s.x.passGood(0, 1), 2);
    }

    private static void holdFilledUp(Sea s) {
        String ahead = "nation a;nation b;nation c;war a b;good g of a worth 1;good h of b worth 1;good i of c worth 1;port p;port q;way p q days 1;";
        s.world(ahead + "price p g 1;price p h 2;ship s at p hold 10;aboard s g 5;");
        s.fine("even by five of h: lawless", s.x.peace(0), 1);
        s.fine("five at two", s.x.peaceCost(0), 10);
        s.world(ahead + "price p g 1;price p h 2;ship s at p hold 9;aboard s g 5;");
        s.none("4 against 5: a rules, at war", s.x.peace(0), 6);
        s.world(ahead + "price p i 9;price p h 2;ship s at p hold 11;aboard s g 5;");
        s.fine("c is at no war", s.x.peace(0), 2);
        s.fine("six at nine", s.x.peaceCost(0), 54);
        s.x.war(2, 0, true);
        s.none("c is at war, too", s.x.peace(0), 6);
        s.world(ahead + "price q i 1;price p g 1;ship s at p hold 10;");
        s.none("i is not traded here", s.x.peace(0), 6);
        s.world(ahead + "price p h 1;ship s at p hold 5;aboard s i 5;");
        s.fine("a full one has peace as it is, for nothing", s.x.peace(0), 1);
        s.fine("nothing", s.x.peaceCost(0), 0);
        s.world(ahead + "price p i 1;ship s at p hold 5;aboard s g 5;");
        s.none("a full one of a has none", s.x.peace(0), 6);
    }

    private static void leastCost(Sea s) {
        s.world("nation a;nation b;good g of a worth 1;good h of b worth 1;good i of b worth 1;port p;price p g 7;price p h 6;price p i 6;"
            + "ship s at p hold 60 coins 0;");
        s.fine("of several the first", s.x.peace(0), 1);
        s.fine("360, without coins", s.x.peaceCost(0), 360);
        s.x.trade(0, 2, 5);
        s.fine("the least", s.x.peace(0), 2);
        s.x.trade(0, 0, 1);
        s.fine("the least", s.x.peace(0), 0);
        s.fine("60", s.x.peaceCost(0), 60);
        s.x.trade(0, 0, 99);
        s.x.trade(0, 1, 0);
        s.x.trade(0, 2, 0);
        s.fine("the only one", s.x.peaceCost(0), 5940);
    }

    // ---- promises

    private static void flagIn(Sea s) {
        s.world(LONG + "ship s at p hold 60;aboard s g 60;");
        for (int no : NO_DAYS) {
            s.none("days " + no, s.x.flagIn(0, no), 1);
        }
        for (int no : NO_SHIP) {
            s.none("ship " + no, s.x.flagIn(no, 0), 1);
        }
        s.fine("0", s.x.flagIn(0, 0), 0);
        s.fine("59", s.x.flagIn(0, 59), 0);
        s.none("60: empty", s.x.flagIn(0, 60), 6);
        s.none("99", s.x.flagIn(0, 99), 6);
        s.world(LONG + "ship s at p hold 60;aboard s h 60;");
        s.fine("99 without a leak", s.x.flagIn(0, 99), 1);
    }

    private static void tonsIn(Sea s) {
        s.world(LONG + "ship s at p hold 60;aboard s g 30;aboard s h 10;aboard s i 19;");
        for (int no : NO_DAYS) {
            s.none("days " + no, s.x.tonsIn(0, no), 1);
        }
        for (int no : NO_SHIP) {
            s.none("ship " + no, s.x.tonsIn(no, 0), 1);
        }
        s.fine("0", s.x.tonsIn(0, 0), 59);
        s.fine("1", s.x.tonsIn(0, 1), 49);
        s.fine("2", s.x.tonsIn(0, 2), 39);
        s.fine("3: a ton of i leaked alone", s.x.tonsIn(0, 3), 37);
        s.fine("30", s.x.tonsIn(0, 30), 10);
        s.fine("99", s.x.tonsIn(0, 99), 10);
    }

    private static void turns(Sea s) {
        s.world(LONG + "ship s at p hold 60;aboard s g 60;");
        s.fine("60", s.x.turns(0), 60);
        for (int no : NO_SHIP) {
            s.none("ship " + no, s.x.turns(no), 1);
        }
        s.x.dump(0, 0, 59);
        s.fine("1", s.x.turns(0), 1);
        s.x.dump(0, 0, 1);
        s.none("an empty one", s.x.turns(0), 6);
        s.world(LONG + "ship s at p hold 60;aboard s h 9;aboard s g 8;");
        s.none("not in 99", s.x.turns(0), 6);
    }

    private static void flags(Sea s) {
        s.world(LONG + "ship s at p hold 60;aboard s g 40;aboard s h 20;");
        for (int no : NO_DAYS) {
            s.none("days " + no, s.x.flags(0, no), 1);
        }
        for (int no : NO_SHIP) {
            s.none("ship " + no, s.x.flags(no, 0), 1);
        }
        s.fine("today", s.x.flags(0, 0), 1);
        s.fine("19", s.x.flags(0, 19), 1);
        s.fine("20: lawless", s.x.flags(0, 20), 1);
        s.fine("21", s.x.flags(0, 21), 2);
        s.fine("99", s.x.flags(0, 99), 2);
        s.x.dump(0, 0, 40);
        s.x.dump(0, 1, 20);
        s.fine("an empty one", s.x.flags(0, 99), 0);
    }

    private static void asOftenAsItBegins(Sea s) {
        // Kinds of a: g for ever, j for a day; of b: h for two days: a, lawless, a.
        s.world("nation a;nation b;good g of a worth 1;good h of b worth 1 leaks 1;good j of a worth 1 leaks 1;port p;ship s at p hold 9;"
            + "aboard s g 1;aboard s h 2;aboard s j 1;rule 1;");
        s.fine("a", s.x.flags(0, 0), 1);
        s.fine("lawless", s.x.flags(0, 1), 1);
        s.fine("a begins again", s.x.flags(0, 2), 2);
        s.fine("and goes on", s.x.flags(0, 99), 2);
        // By worth: b 20 10 0, a 15 14 13: b, a.
        s.world("nation a;nation b;good g of a worth 1 leaks 1;good h of b worth 10 leaks 1;port p;ship s at p hold 60;aboard s g 15;aboard s h 2;rule 2;");
        s.fine("b", s.x.flags(0, 0), 1);
        s.fine("a at once", s.x.flags(0, 1), 2);
        s.fine("a goes on, then none", s.x.flags(0, 99), 2);
    }

    private static void wages(Sea s) {
        s.world(LONG + "ship s at p hold 60 coins 0;aboard s g 40;aboard s h 20;");
        for (int no : NO_DAYS) {
            s.none("days " + no, s.x.wages(0, no), 1);
        }
        for (int no : NO_SHIP) {
            s.none("ship " + no, s.x.wages(no, 0), 1);
        }
        s.fine("0", s.x.wages(0, 0), 0);
        s.fine("1, without coins, in a port", s.x.wages(0, 1), 3);
        s.fine("20", s.x.wages(0, 20), 60);
        s.fine("21: lawless", s.x.wages(0, 21), 60);
        s.fine("22", s.x.wages(0, 22), 80);
        s.fine("99", s.x.wages(0, 99), 60 + 78 * 20);
        s.x.dump(0, 0, 40);
        s.fine("b all the time", s.x.wages(0, 99), 99 * 20);
        s.x.dump(0, 1, 20);
        s.fine("an empty one", s.x.wages(0, 99), 0);
        s.fine("nothing is paid", s.x.ship(0, 6), 0);
    }

    private static void stowaway(Sea s) {
        String two = "nation a;nation b;good g of a worth 2;good h of b worth 1;port p;";
        s.world(two + "ship s at p hold 60;aboard s g 60;");
        s.fine("60", s.x.stowaway(0), 60);
        s.x.rule(2);
        s.none("120", s.x.stowaway(0), 6);
        s.x.dump(0, 0, 29);
        s.none("62", s.x.stowaway(0), 6);
        s.x.dump(0, 0, 1);
        s.fine("60", s.x.stowaway(0), 60);
        for (int no : NO_SHIP) {
            s.none("ship " + no, s.x.stowaway(no), 1);
        }
        s.world("nation a;nation b;port p;ship s at p hold 60;");
        s.none("no goods", s.x.stowaway(0), 6);
        s.world("nation a;good g of a worth 1;port p;ship s at p hold 60;aboard s g 1;");
        s.none("no other nation", s.x.stowaway(0), 6);
    }

    private static void stowawayGood(Sea s) {
        s.world("nation a;nation b;good g of a worth 2;good h of b worth 1;port p;ship s at p hold 60;aboard s g 30;rule 2;");
        s.fine("h", s.x.stowawayGood(0), 1);
        s.world("nation a;nation b;good g of a worth 2;good h of b worth 1;port p;ship s at p hold 60;aboard s g 31;rule 2;");
        s.none("none in 60", s.x.stowawayGood(0), 6);
        for (int no : NO_SHIP) {
            s.none("ship " + no, s.x.stowawayGood(no), 1);
        }
        s.world("nation a;port p;ship s at p hold 60;");
        s.none("no goods", s.x.stowawayGood(0), 6);
    }

    private static void guard(Sea s) {
        s.world(LONG + "ship s at p hold 60;aboard s g 60;");
        for (int no : new int[] {-1, 0, 61, Integer.MIN_VALUE, Integer.MAX_VALUE}) {
            s.none("tons " + no, s.x.guard(0, no), 1);
        }
        for (int no : NO_SHIP) {
            s.none("ship " + no, s.x.guard(no, 1), 1);
        }
        s.fine("1", s.x.guard(0, 1), 1);
        s.fine("59", s.x.guard(0, 59), 1);
        s.fine("60", s.x.guard(0, 60), 0);
        s.x.dump(0, 0, 60);
        s.fine("an empty one", s.x.guard(0, 1), 0);
        s.world("port p;ship s at p hold 60;");
        s.fine("no goods at all", s.x.guard(0, 60), 1);
    }

    private static void passFor(Sea s) {
        s.world(LONG + "nation d;ship s at p hold 60;aboard s g 29;");
        s.fine("0: it is ruled so", s.x.passFor(0, 0), 0);
        s.fine("30 of h", s.x.passFor(0, 1), 30);
        s.none("no good of d", s.x.passFor(0, 3), 6);
        for (int no : NO_SHIP) {
            s.none("ship " + no, s.x.passFor(no, 0), 1);
        }
        for (int no : new int[] {-1, 4, Integer.MIN_VALUE, Integer.MAX_VALUE}) {
            s.none("nation " + no, s.x.passFor(0, no), 1);
        }
        s.world(LONG + "ship s at p hold 60;aboard s g 30;");
        s.none("31 of h: no room", s.x.passFor(0, 1), 6);
        s.world(LONG + "ship s at p hold 60;aboard s g 30;aboard s h 30;");
        s.none("full, and lawless", s.x.passFor(0, 0), 6);
        s.world(LONG + "ship s at p hold 60;");
        s.fine("one ton of an empty one", s.x.passFor(0, 2), 1);
        s.fine("one ton of the first good", s.x.passFor(0, 0), 1);
        s.fine("the first good", s.x.passGood(0, 0), 0);
        s.world(LONG + "ship s at p hold 60;aboard s h 60;");
        s.fine("full, and ruled so", s.x.passFor(0, 1), 0);
    }

    private static void passGood(Sea s) {
        s.world(LONG + "nation d;ship s at p hold 60;aboard s g 29;");
        s.none("0 tons", s.x.passGood(0, 0), 6);
        s.fine("h", s.x.passGood(0, 1), 1);
        s.fine("i", s.x.passGood(0, 2), 2);
        s.none("none", s.x.passGood(0, 3), 6);
        for (int no : NO_SHIP) {
            s.none("ship " + no, s.x.passGood(no, 0), 1);
        }
        for (int no : new int[] {-1, 4, Integer.MIN_VALUE, Integer.MAX_VALUE}) {
            s.none("nation " + no, s.x.passGood(0, no), 1);
        }
    }

    private static void peace(Sea s) {
        s.world(LONG + "war a b;price p g 2;price p h 2;price q i 1;ship s at p hold 60;");
        s.none("none", s.x.peace(0), 6);
        for (int no : NO_SHIP) {
            s.none("ship " + no, s.x.peace(no), 1);
        }
        s.x.trade(0, 2, 99);
        s.fine("i", s.x.peace(0), 2);
        s.x.sail(0, 1);
        s.none("at sea", s.x.peace(0), 7);
        s.x.day(2);
        s.fine("in q", s.x.peace(0), 2);
        s.x.trade(1, 2, 0);
        s.none("nothing is traded", s.x.peace(0), 6);
    }

    private static void peaceCost(Sea s) {
        s.world(LONG + "war a b;price p g 2;price p h 2;price q i 1;ship s at p hold 60;");
        s.none("none", s.x.peaceCost(0), 6);
        for (int no : NO_SHIP) {
            s.none("ship " + no, s.x.peaceCost(no), 1);
        }
        s.x.trade(0, 2, 99);
        s.fine("60 at 99", s.x.peaceCost(0), 5940);
        s.x.sail(0, 1);
        s.none("at sea", s.x.peaceCost(0), 7);
        s.x.day(2);
        s.fine("60 at 1", s.x.peaceCost(0), 60);
        s.fine("nothing is bought", s.x.ship(0, 5), 0);
        s.fine("nothing is paid", s.x.ship(0, 4), 100);
    }
}
