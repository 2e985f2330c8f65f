/** The sentences of the document on flags (==== 2, its beginning and deeds), and promises 21 to 31. */
final class EdgesOfFlags {
    /* Each of six nations has a good, the first two have one more; three ships. */
    private static final String SIX = "nation a deeds 255;nation b;nation c deeds 3;nation d deeds 5;nation e deeds 9;nation f deeds 129;"
        + "good ga of a worth 99;good gb of b worth 50;good gc of c worth 33;good gd of d worth 1;good ge of e worth 1;good gf of f worth 1;"
        + "good ha of a worth 1;good hb of b worth 1;port p;ship s at p hold 60;ship t at p hold 60;ship u at p hold 60;ship v at p hold 60;";

    private EdgesOfFlags() {
    }

    static void tell(Sentences d) {
        d.term("WEIGHT of a NATION in a SHIP: by RULE 0 the tons of its GOODS aboard, by RULE 1 how many kinds of its GOODS are aboard, "
            + "by RULE 2 these tons times WORTH, together.", EdgesOfFlags::weights);
        d.term("CAPTAINS of a SHIP: the NATIONS with the greatest WEIGHT above 0.", EdgesOfFlags::captainsOf);
        d.term("RULED is a SHIP by its CAPTAIN, if it has just one; else it is LAWLESS.", EdgesOfFlags::justOne);
        d.term("A DEED is LAWFUL in a SHIP that is RULED by a NATION among whose DEEDS it is", EdgesOfFlags::lawfulOfOne);
        d.term("or in a LAWLESS one if it is among those of no CAPTAIN or of all (without CAPTAINS: LAWFUL).", EdgesOfFlags::lawfulOfSeveral);
        d.term("BOARD: a SHIP may board another one, if both are RULED, by NATIONS at WAR.", EdgesOfFlags::bothAreRuled);
        d.promise(21, "WEIGHT of a NATION in a SHIP (1).", EdgesOfFlags::weight);
        d.promise(22, "WEIGHT by another RULE (1).", EdgesOfFlags::weightBy);
        d.promise(23, "The set of CAPTAINS of a SHIP (1).", EdgesOfFlags::captains);
        d.promise(24, "The NATION by which a SHIP is RULED (1; 6: LAWLESS).", EdgesOfFlags::ruled);
        d.promise(25, "That by another RULE (1; 6).", EdgesOfFlags::ruledBy);
        d.promise(26, "The FRACTION is the part of a NATION in all WEIGHT of a SHIP (1; 6: there is none).", EdgesOfFlags::share);
        d.promise(27, "1 if a DEED (0 to 7) is LAWFUL in a SHIP, else 0 (1).", EdgesOfFlags::lawful);
        d.promise(28, "The set of DEEDS that are LAWFUL in a SHIP (1).", EdgesOfFlags::deeds);
        d.promise(29, "1 if a SHIP may BOARD another one, else 0 (1: one and itself, too).", EdgesOfFlags::board);
        d.promise(30, "The set of SHIPS that may BOARD a SHIP (1).", EdgesOfFlags::boarders);
        d.promise(31, "The SHIP with the most tons of GOODS of a NATION, of several the first (1; 6: there are none).", EdgesOfFlags::greatest);
    }

    private static final int[] NO_SHIP = {-1, 4, Integer.MIN_VALUE, Integer.MAX_VALUE};
    private static final int[] NO_NATION = {-1, 6, Integer.MIN_VALUE, Integer.MAX_VALUE};

    private static void weights(Sea s) {
        s.world(SIX + "aboard s ga 60;aboard t ga 2;aboard t ha 3;aboard t gb 1;");
        int[][] of60 = {{60, 0}, {1, 0}, {5940, 0}};
        int[][] ofSome = {{5, 1}, {2, 1}, {201, 50}};
        for (int rule = 0; rule < 3; rule++) {
            for (int n = 0; n < 2; n++) {
                s.fine("a full ship", s.x.weightBy(0, n, rule), of60[rule][n]);
                s.fine("two kinds", s.x.weightBy(1, n, rule), ofSome[rule][n]);
                s.fine("an empty ship", s.x.weightBy(2, n, rule), 0);
            }
        }
        s.x.dump(1, 0, 2);
        s.fine("a kind that is gone", s.x.weightBy(1, 0, 1), 1);
        s.x.dump(1, 6, 3);
        s.fine("both are gone", s.x.weightBy(1, 0, 1), 0);
    }

    private static void captainsOf(Sea s) {
        s.world(SIX + "aboard s ga 1;aboard s gb 1;aboard s gc 1;aboard s gd 1;aboard s ge 1;aboard s gf 1;aboard t gf 1;aboard u gd 2;aboard u ge 3;aboard u gf 3;");
        s.fine("all six", s.x.captains(0), 63);
        s.fine("the last, by one ton", s.x.captains(1), 32);
        s.fine("the greatest two", s.x.captains(2), 48);
        s.fine("none above 0", s.x.captains(3), 0);
        s.x.rule(1);
        s.fine("all six by kinds", s.x.captains(0), 63);
        s.fine("three by kinds", s.x.captains(2), 56);
        s.x.rule(2);
        s.fine("the first by worth", s.x.captains(0), 1);
        s.fine("none above 0", s.x.captains(3), 0);
    }

    private static void justOne(Sea s) {
        s.world(SIX + "aboard s gd 2;aboard s ge 1;aboard t gd 1;aboard t ge 1;");
        s.fine("one", s.x.ruled(0), 3);
        s.none("two", s.x.ruled(1), 6);
        s.none("none", s.x.ruled(2), 6);
        s.fine("the lawless", s.x.told(7), 14);
        s.x.dump(1, 3, 1);
        s.fine("one is left", s.x.ruled(1), 4);
        s.x.dump(1, 4, 1);
        s.none("none is left", s.x.ruled(1), 6);
    }

    private static void lawfulOfOne(Sea s) {
        s.world(SIX + "aboard s gf 1;aboard t gb 1;aboard u ga 1;");
        s.fine("f: 0 and 7", s.x.deeds(0), 129);
        s.fine("b: none", s.x.deeds(1), 0);
        s.fine("a: all", s.x.deeds(2), 255);
    }

    private static void lawfulOfSeveral(Sea s) {
        s.world(SIX + "aboard s gc 1;aboard s gd 1;aboard t ga 1;aboard t gb 1;aboard u gc 1;aboard u gd 1;aboard u ge 1;");
        // c 00000011, d 00000101, e 00001001, a 11111111, b none.
        s.fine("c and d: of all 1, of none 11111000", s.x.deeds(0), 249);
        s.fine("a and b: of all none, of none none", s.x.deeds(1), 0);
        s.fine("c, d and e: of all 1, of none 11110000", s.x.deeds(2), 241);
        s.fine("without captains", s.x.deeds(3), 255);
        s.fine("without captains", s.x.lawful(3, 7), 1);
        s.x.dump(0, 2, 1);
        s.fine("d alone", s.x.deeds(0), 5);
        s.x.dump(0, 3, 1);
        s.fine("nothing is aboard any more", s.x.deeds(0), 255);
        s.world("nation a deeds 6;nation b deeds 2;nation c deeds 8;good g of a worth 1;good h of b worth 1;good i of c worth 1;port p;"
            + "ship s at p hold 9;aboard s g 1;aboard s h 1;aboard s i 1;");
        s.fine("a deed of two of three, or of one, is not lawful", s.x.deeds(0), 255 - 14);
        s.x.dump(0, 2, 1);
        s.fine("the deed of both is", s.x.deeds(0), 255 - 4);
    }

    private static void bothAreRuled(Sea s) {
        s.world(SIX + "war a f;aboard s ga 1;aboard t gf 1;aboard u ga 1;aboard u gf 1;");
        s.fine("at war", s.x.board(0, 1), 1);
        s.fine("both ways", s.x.board(1, 0), 1);
        s.fine("a lawless one", s.x.board(0, 2), 0);
        s.fine("a lawless one", s.x.board(2, 1), 0);
        s.fine("an empty one", s.x.board(3, 1), 0);
        s.fine("an empty one", s.x.board(0, 3), 0);
        s.x.dump(2, 0, 1);
        s.fine("ruled now", s.x.board(0, 2), 1);
        s.fine("the same nation", s.x.board(1, 2), 0);
        s.x.war(5, 0, false);
        s.fine("peace", s.x.board(0, 1), 0);
    }

    private static void weight(Sea s) {
        s.world(SIX + "aboard s gf 7;rule 2;");
        s.fine("the last nation", s.x.weight(0, 5), 7);
        s.fine("another", s.x.weight(0, 0), 0);
        s.x.rule(1);
        s.fine("by the rule now", s.x.weight(0, 5), 1);
        for (int no : NO_SHIP) {
            s.none("ship " + no, s.x.weight(no, 0), 1);
        }
        for (int no : NO_NATION) {
            s.none("nation " + no, s.x.weight(0, no), 1);
        }
    }

    private static void weightBy(Sea s) {
        s.world(SIX + "aboard v gc 2;aboard v gb 1;rule 1;");
        s.fine("0", s.x.weightBy(3, 2, 0), 2);
        s.fine("1", s.x.weightBy(3, 2, 1), 1);
        s.fine("2", s.x.weightBy(3, 2, 2), 66);
        s.fine("the rule stays", s.x.told(4), 1);
        for (int no : NO_SHIP) {
            s.none("ship " + no, s.x.weightBy(no, 0, 0), 1);
        }
        for (int no : NO_NATION) {
            s.none("nation " + no, s.x.weightBy(0, no, 0), 1);
        }
        for (int no : new int[] {-1, 3, Integer.MIN_VALUE, Integer.MAX_VALUE}) {
            s.none("rule " + no, s.x.weightBy(0, 0, no), 1);
        }
    }

    private static void captains(Sea s) {
        s.world(SIX + "aboard v ga 1;");
        s.fine("the last ship", s.x.captains(3), 1);
        s.fine("an empty one", s.x.captains(0), 0);
        for (int no : NO_SHIP) {
            s.none("ship " + no, s.x.captains(no), 1);
        }
    }

    private static void ruled(Sea s) {
        s.world(SIX + "aboard v gf 1;aboard s ga 1;");
        s.fine("by the last", s.x.ruled(3), 5);
        s.fine("by the first", s.x.ruled(0), 0);
        s.none("lawless", s.x.ruled(1), 6);
        for (int no : NO_SHIP) {
            s.none("ship " + no, s.x.ruled(no), 1);
        }
    }

    private static void ruledBy(Sea s) {
        // Tons: d 3, c 2, b 1 and 1; kinds: b 2; worth: c 66, b 51.
        s.world(SIX + "aboard s gd 3;aboard s gc 2;aboard s gb 1;aboard s hb 1;aboard t gc 1;aboard t gd 1;");
        s.fine("0", s.x.ruledBy(0, 0), 3);
        s.fine("1", s.x.ruledBy(0, 1), 1);
        s.fine("2", s.x.ruledBy(0, 2), 2);
        s.none("lawless by tons", s.x.ruledBy(1, 0), 6);
        s.none("lawless by kinds", s.x.ruledBy(1, 1), 6);
        s.fine("by worth not", s.x.ruledBy(1, 2), 2);
        s.none("empty", s.x.ruledBy(2, 2), 6);
        for (int no : NO_SHIP) {
            s.none("ship " + no, s.x.ruledBy(no, 0), 1);
        }
        for (int no : new int[] {-1, 3, Integer.MIN_VALUE, Integer.MAX_VALUE}) {
            s.none("rule " + no, s.x.ruledBy(0, no), 1);
        }
    }

    private static void share(Sea s) {
        s.world(SIX + "aboard s gd 4;aboard s ge 8;aboard s ha 20;aboard t gf 60;");
        s.fine("d", s.x.share(0, 3));
        s.fraction("4 by 32", 1, 8);
        s.fine("a", s.x.share(0, 0));
        s.fraction("20 by 32", 5, 8);
        s.no("there is none", s.x.share(2, 0), 6);
        s.fraction("stays", 5, 8);
        for (int no : NO_SHIP) {
            s.no("ship " + no, s.x.share(no, 0), 1);
        }
        for (int no : NO_NATION) {
            s.no("nation " + no, s.x.share(0, no), 1);
        }
        s.no("1 ahead of 6", s.x.share(2, 6), 1);
        s.fraction("stays", 5, 8);
        s.fine("a nation of none aboard", s.x.share(0, 1));
        s.fraction("0 by 1", 0, 1);
        s.fine("all of it", s.x.share(1, 5));
        s.fraction("60 by 60", 1, 1);
        s.x.rule(1);
        s.fine("by kinds", s.x.share(0, 0));
        s.fraction("1 by 3", 1, 3);
        s.x.rule(2);
        s.fine("by worth", s.x.share(0, 4));
        s.fraction("8 by 32", 1, 4);
    }

    private static void lawful(Sea s) {
        s.world(SIX + "aboard s gf 1;");
        for (int deed = 0; deed < 8; deed++) {
            s.fine("deed " + deed, s.x.lawful(0, deed), deed == 0 || deed == 7 ? 1 : 0);
            s.fine("an empty ship", s.x.lawful(1, deed), 1);
        }
        for (int no : new int[] {-1, 8, 32, Integer.MIN_VALUE, Integer.MAX_VALUE}) {
            s.none("deed " + no, s.x.lawful(0, no), 1);
        }
        for (int no : NO_SHIP) {
            s.none("ship " + no, s.x.lawful(no, 0), 1);
        }
    }

    private static void deeds(Sea s) {
        s.world(SIX + "aboard s gb 1;");
        s.fine("none", s.x.deeds(0), 0);
        s.fine("all", s.x.deeds(3), 255);
        for (int no : NO_SHIP) {
            s.none("ship " + no, s.x.deeds(no), 1);
        }
    }

    private static void board(Sea s) {
        s.world(SIX + "war a b;aboard s ga 1;aboard v gb 1;");
        s.fine("the first, the last", s.x.board(0, 3), 1);
        s.fine("the last, the first", s.x.board(3, 0), 1);
        s.fine("an empty one", s.x.board(0, 1), 0);
        for (int ship = 0; ship < 4; ship++) {
            s.none("itself", s.x.board(ship, ship), 1);
        }
        for (int no : NO_SHIP) {
            s.none("ship " + no, s.x.board(no, 0), 1);
            s.none("ship " + no, s.x.board(0, no), 1);
            s.none("no ship and itself", s.x.board(no, no), 1);
        }
    }

    private static void boarders(Sea s) {
        s.world(SIX + "war a b;war a c;aboard s ga 1;aboard t gb 1;aboard u gc 1;aboard v gb 1;");
        s.fine("all the others", s.x.boarders(0), 14);
        s.fine("one", s.x.boarders(1), 1);
        s.fine("one", s.x.boarders(2), 1);
        s.fine("one", s.x.boarders(3), 1);
        s.x.dump(0, 0, 1);
        s.fine("none of an empty one", s.x.boarders(0), 0);
        s.fine("an empty one may not", s.x.boarders(3), 0);
        for (int no : NO_SHIP) {
            s.none("ship " + no, s.x.boarders(no), 1);
        }
    }

    private static void greatest(Sea s) {
        s.world(SIX + "aboard t ga 1;aboard t ha 2;aboard u ga 3;aboard v hb 1;aboard s hb 1;rule 1;");
        s.fine("3 and 3: the first", s.x.greatest(0), 1);
        s.fine("1 and 1: the first", s.x.greatest(1), 0);
        s.none("there are none", s.x.greatest(2), 6);
        s.none("there are none", s.x.greatest(5), 6);
        s.x.dump(1, 6, 1);
        s.fine("2 and 3, by tons though two kinds", s.x.greatest(0), 2);
        s.x.dump(0, 7, 1);
        s.fine("the last ship", s.x.greatest(1), 3);
        for (int no : NO_NATION) {
            s.none("nation " + no, s.x.greatest(no), 1);
        }
    }
}
