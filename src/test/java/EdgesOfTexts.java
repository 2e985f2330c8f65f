/** The sentences of the document on worlds as a text (==== 1), and promises 9, 10, 12 to 20. */
final class EdgesOfTexts {
    /* A world with every PART and every option, its TOKENS between single blanks; | ends a PART. */
    private static final String WHOLE = "nation n wage 2 duty 3 deeds 4 ; | nation m ; | war n m ; | good g of n worth 5 leaks 6 ; | good h of m worth 7 ; | "
        + "port p of n ; | port q ; | price p g 8 ; | way p q days 9 ; | ship s at p hold 10 coins 11 ; | ship t at q hold 12 ; | "
        + "aboard s g 1 ; | rule 2 ; |";
    private static final String[] WORDS = ("nation wage duty deeds war good of worth leaks port price way days ship at hold coins aboard"
        + " rule day buy sell dump sail any when ruled in loop end stop").split(" ");
    private static final String THINGS = "nation n;nation m;good g of n worth 1;port p;port q;ship s at p hold 9;";

    private EdgesOfTexts() {
    }

    static void tell(Sentences d) {
        tellTokens(d);
        tellGrammar(d);
        tellNumbers(d);
        tellFaults(d);
        tellPromises(d);
    }

    private static void tellTokens(Sentences d) {
        d.term("A WORLD is a TEXT of at most 900 bytes", EdgesOfTexts::nineHundred);
        d.term("TOKENS, as long as they go", EdgesOfTexts::asLongAsTheyGo);
        d.term("between them blanks (10, 32)", EdgesOfTexts::blanks);
        d.term("WORDS (small letters), NUMBERS (1 to 4 digits), SIGNS ; < > =", EdgesOfTexts::everyByte);
        d.term("NUMBERS (1 to 4 digits)", EdgesOfTexts::digits);
    }

    private static void tellGrammar(Sentences d) {
        d.term("WORLD: {PART}.", EdgesOfTexts::anyParts);
        d.term("PART: nation NAME [wage NUMBER] [duty NUMBER] [deeds NUMBER] ; or war NAME NAME ; or good NAME of NAME worth NUMBER [leaks NUMBER] ; "
            + "or port NAME [of NAME] ; or price NAME NAME NUMBER ; or way NAME NAME days NUMBER ; or ship NAME at NAME hold NUMBER [coins NUMBER] ; "
            + "or aboard NAME NAME NUMBER ; or rule NUMBER ;", EdgesOfTexts::everyToken);
        d.term("({ } any number of times, [ ] perhaps.)", EdgesOfTexts::perhaps);
        d.term("NAME: a WORD of 1 to 8 letters", EdgesOfTexts::letters);
        d.term("that is none of nation, wage, duty, deeds, war, good, of, worth, leaks, port, price, way, days, ship, at, hold, coins, aboard, rule, "
            + "day, buy, sell, dump, sail, any, when, ruled, in, loop, end, stop.", EdgesOfTexts::noWordIsAName);
        d.term("One NAME is of one thing alone.", EdgesOfTexts::oneThingAlone);
    }

    private static void tellNumbers(Sentences d) {
        d.term("NATIONS, at most 6:", s -> atMost(6, 0, "", "nation ?;"));
        d.term("WAGE (0 to 20; 1 without)", s -> number("nation n", " wage ", 0, 20, 1, x -> x.nation(0, 0)));
        d.term("DUTY (0 to 9; 0 without)", s -> number("nation n", " duty ", 0, 9, 0, x -> x.nation(0, 1)));
        d.term("DEEDS that are lawful (a set, 0 to 255: 1 for DEED 0 ..; 0 without)", EdgesOfTexts::deeds);
        d.term("WAR: between two NATIONS (told again: nothing more).", EdgesOfTexts::war);
        d.term("GOODS, at most 8: of a NATION", s -> atMost(8, 1, "nation n;", "good ? of n worth 1;"));
        d.term("WORTH (1 to 99)", s -> number("nation n;good g of n", " worth ", 1, 99, -1, x -> x.good(0, 1)));
        d.term("LEAKS so many tons a DAY (0 to 9; 0 without).", s -> number("nation n;good g of n worth 1", " leaks ", 0, 9, 0, x -> x.good(0, 2)));
        d.term("PORTS, at most 6: of a NATION, or of none.", s -> atMost(6, 2, "", "port ?;"));
        d.term("PORTS, at most 6: of a NATION, or of none.", EdgesOfTexts::portsOf);
        d.term("PRICE: in a PORT of a GOOD (1 to 99; told again: the latest; none without: it is not traded there).", EdgesOfTexts::prices);
        d.term("WAYS: between two PORTS, both ways, in DAYS (1 to 20; told again: the latest).", EdgesOfTexts::ways);
        d.term("SHIPS, at most 4: at a PORT", s -> atMost(4, 3, "port p;", "ship ? at p hold 1;"));
        d.term("HOLD (1 to 60 tons)", s -> number("port p;ship s at p", " hold ", 1, 60, -1, x -> x.ship(0, 3)));
        d.term("COINS (0 to 9,999; 100 without).", s -> number("port p;ship s at p hold 1", " coins ", 0, 9999, 100, x -> x.ship(0, 4)));
        d.term("ABOARD: of a GOOD so many tons (1 to 60; all together not above the HOLD; told again for these two: more).", EdgesOfTexts::aboardInText);
        d.term("RULE (0 to 2; 0 without).", s -> number("", "rule ", 0, 2, 0, x -> x.told(4)));
        d.term("All are numbered as they stand", EdgesOfTexts::asTheyStand);
        d.term("All are numbered as they stand", EdgesOfTexts::allThatThereCanBe);
        d.term("All are numbered as they stand", EdgesOfTexts::waysOfAll);
        d.term("WORLD: {PART}.", EdgesOfTexts::aShipAlone);
        d.term("what a PART names must be told ahead.", EdgesOfTexts::toldAhead);
    }

    private static void tellFaults(Sentences d) {
        d.term("FAULTS, the first along the text (of one TOKEN the least kind):", EdgesOfTexts::firstAlongTheText);
        d.term("1 no TOKEN begins so (a NUMBER of 5 digits and more: at its first).", EdgesOfTexts::noToken);
        d.term("2 it can't stand there (the end: the text's length; a WORD of 9 letters and more where a NAME must stand).", EdgesOfTexts::cannotStand);
        d.term("3 a new NAME that is taken; a NAME that is no such one told ahead.", EdgesOfTexts::noSuchName);
        d.term("4 a NUMBER that can't be (tons beyond the HOLD, too).", EdgesOfTexts::beyondTheHold);
        d.term("5 a NATION, a PORT and itself (at the second NAME); rule told already (at that WORD).", EdgesOfTexts::itself);
        d.term("6 a seventh nation, port, a ninth good, a fifth ship (at that WORD).", EdgesOfTexts::oneMore);
        d.term("A WORLD that is taken is there in place of that ahead; it is DAY 0, there are no VOYAGES.", EdgesOfTexts::inPlaceOf);
        d.term("A WORLD that is taken is there in place of that ahead; it is DAY 0, there are no VOYAGES.", EdgesOfTexts::behindAMean);
    }

    private static void tellPromises(Sentences d) {
        d.promise(9, "Twenty bytes come behind those on the tape, the highest of each int first: how many it has", EdgesOfTexts::feed);
        d.promise(9, "NONE if there would be more than 900.", EdgesOfTexts::feedTooMuch);
        d.promise(10, "The first n bytes of the tape (which is empty then) are the WORLD: how many SHIPS", EdgesOfTexts::firstBytes);
        d.promise(10, "(1: n below 0, or more than the tape has, too; 9: the old one stays).", EdgesOfTexts::refusedWorld);
        d.promise(12, "Of the latest world() or voyages() with STATUS 0 or 9, what 0: the FAULT (0 without one), 1: its place (NONE without).", EdgesOfTexts::fault);
        d.promise(12, "NONE for others, and ahead of any.", EdgesOfTexts::faultOfOthers);
        d.promise(13, "How many NATIONS (what 0), GOODS (1), PORTS (2), SHIPS (3); RULE (4); the DAY (5);", EdgesOfTexts::told);
        d.promise(13, "the set of SHIPS (1 for SHIP 0 ..) at SEA (6), that are LAWLESS (7); all tons in all SHIPS (8), all COINS (9) (1).", EdgesOfTexts::toldOfShips);
        d.promise(14, "Of a NATION, what 0: WAGE, 1: DUTY, 2: DEEDS, 3: the set of NATIONS with which it is at WAR (1).", EdgesOfTexts::nation);
        d.promise(15, "Of a GOOD, what 0: its NATION, 1: WORTH, 2: what LEAKS (1).", EdgesOfTexts::good);
        d.promise(16, "The NATION of a PORT (1; 6: of none).", EdgesOfTexts::portOf);
        d.promise(17, "PRICE of a GOOD in a PORT (1; 6: not traded).", EdgesOfTexts::price);
        d.promise(18, "DAYS of the WAY between two PORTS (1: one and itself, too; 6: none).", EdgesOfTexts::way);
        d.promise(19, "Of a SHIP, what 0: the PORT where it lies (6: at SEA), 1: that to which it SAILS (6: it lies), 2: DAYS it has to go (0: it lies), "
            + "3: HOLD, 4: COINS, 5: tons aboard, 6: UNPAID DAYS, 7: how many DUTIES it paid, in COINS together (1).", EdgesOfTexts::ship);
        d.promise(20, "Tons of a GOOD in a SHIP (1).", EdgesOfTexts::aboard);
    }

    // ---- tokens

    private static void taken(String text) {
        Sea s = new Sea("taken: " + text);
        s.due("world", s.world(text) >= 0, true);
        s.due("status", s.x.status(), 0);
        s.due("fault", s.x.fault(0), 0);
        s.due("place", s.x.fault(1), -1);
    }

    private static void faulty(String text, int fault, int place) {
        new Sea("faulty").badWorld(text, fault, place);
    }

    private static String many(String what, int times) {
        return what.repeat(times);
    }

    private static void nineHundred(Sea s) {
        String text = "port p" + many(" ", 893) + ";";
        s.due("900 bytes", s.feed(text), 900);
        s.none("901", s.x.world(901), 1);
        s.fine("900", s.x.world(900), 0);
        s.fine("a port", s.x.told(2), 1);
        s.due("again", s.feed(text), 900);
        s.none("all but the last sign", s.x.world(899), 9);
        s.due("the end", s.x.fault(0), 2);
        s.due("the text's length", s.x.fault(1), 899);
    }

    private static void asLongAsTheyGo(Sea s) {
        faulty("portp;", 2, 0);
        faulty("nationn;", 2, 0);
        faulty("nation n wage 1 2;", 2, 16);
        faulty("port p;;", 2, 7);
        s.fine("names as long as they go", s.world("port p;port pp;port ppp;"), 0);
        s.fine("three", s.x.told(2), 3);
        s.fine("a number as long as it goes", s.world("nation n wage 12;"), 0);
        s.fine("12", s.x.nation(0, 0), 12);
        s.fine("a word ends where a number begins", s.world("nation n wage12duty3;rule2;"), 0);
        s.fine("12", s.x.nation(0, 0), 12);
        s.fine("3", s.x.nation(0, 1), 3);
    }

    private static void blanks(Sea s) {
        s.fine("any number of them", s.world(" \n\n  port\n \np \n; \n"), 0);
        s.fine("a port", s.x.told(2), 1);
        for (int b : new int[] {0, 9, 11, 12, 13, 31, 33, 160}) {
            faulty("port" + (char) b + "p;", 1, 4);
        }
    }

    private static void everyByte(Sea s) {
        for (int b = 0; b < 256; b++) {
            boolean token = b >= 'a' && b <= 'z' || b >= '0' && b <= '9' || ";<>=".indexOf(b) >= 0;
            String text = "" + (char) b;
            if (b == 10 || b == 32) {
                taken(text);
            } else {
                faulty(text, token ? 2 : 1, 0);
            }
        }
    }

    private static void digits(Sea s) {
        for (String one : new String[] {"1", "01", "001", "0001"}) {
            taken("nation n wage " + one + ";");
        }
        faulty("nation n wage 00001;", 1, 14);
        faulty("nation n wage 10000;", 1, 14);
        faulty("nation n wage " + many("0", 30) + ";", 1, 14);
        taken("port p;ship s at p hold 1 coins 9999;");
        faulty("port p;ship s at p hold 1 coins 09999;", 1, 32);
    }

    // ---- grammar

    private static void anyParts(Sea s) {
        s.fine("none", s.x.world(0), 0);
        s.fine("blanks alone", s.world("  \n "), 0);
        s.fine("one", s.world("port p;"), 0);
        s.fine("all", s.world(WHOLE.replace("|", "")), 2);
        s.fine("as many wars", s.world("nation a;nation b;" + many("war a b;", 100)), 0);
    }

    /** Each TOKEN cut off with all behind it, and each put out by another one that can stand nowhere in a WORLD. */
    private static void everyToken(Sea s) {
        String[] tokens = WHOLE.split(" ");
        StringBuilder ahead = new StringBuilder();
        boolean begun = false;
        for (String token : tokens) {
            if (token.equals("|")) {
                begun = false;
                taken(ahead.toString());
                continue;
            }
            int at = ahead.length();
            if (begun) {
                faulty(ahead.toString(), 2, at);
            }
            faulty(ahead + "<", 2, at);
            faulty(ahead + "= ;", 2, at);
            faulty(ahead + "#", 1, at);
            ahead.append(token).append(' ');
            begun = true;
        }
        // A WORD or a NUMBER more ahead of each sign that ends a PART.
        String text = WHOLE.replace("|", "");
        for (int i = text.indexOf(';'); i >= 0; i = text.indexOf(';', i + 1)) {
            faulty(text.substring(0, i) + "zz" + text.substring(i), 2, i);
            faulty(text.substring(0, i) + "stop" + text.substring(i), 2, i);
            faulty(text.substring(0, i) + "1" + text.substring(i), 2, i);
        }
    }

    private static void perhaps(Sea s) {
        String[] options = {" wage 1", " duty 1", " deeds 1"};
        for (int set = 0; set < 8; set++) {
            StringBuilder t = new StringBuilder("nation n");
            for (int i = 0; i < 3; i++) {
                t.append((set >> i & 1) != 0 ? options[i] : "");
            }
            taken(t + ";");
        }
        faulty("nation n duty 1 wage 1;", 2, 16);
        faulty("nation n deeds 1 wage 1;", 2, 17);
        faulty("nation n deeds 1 duty 1;", 2, 17);
        faulty("nation n wage 1 wage 1;", 2, 16);
        faulty("nation n leaks 1;", 2, 9);
        taken("nation n;good g of n worth 1;");
        faulty("nation n;good g of n leaks 1 worth 1;", 2, 21);
        faulty("nation n;good g of n worth 1 leaks 1 leaks 1;", 2, 37);
        faulty("nation n;port p of n of n;", 2, 21);
        faulty("port p;ship s at p coins 1 hold 1;", 2, 19);
        faulty("port p;ship s at p hold 1 coins 1 coins 1;", 2, 34);
    }

    private static void letters(Sea s) {
        taken("port a;");
        taken("port z;");
        taken("port abcdefgh;");
        faulty("port abcdefghi;", 2, 5);
        faulty("port " + many("a", 100) + ";", 2, 5);
        s.fine("the eighth letter counts", s.world("port abcdefgh;port abcdefgi;port abcdefg;"), 0);
        s.fine("three", s.x.told(2), 3);
        faulty("port abcdefgh;port abcdefgh;", 3, 19);
        faulty("port abcdefgh;port abcdefghi;", 2, 19);
        faulty("port abcdefgh;port q;way q abcdefghi days 1;", 2, 27);
    }

    private static void noWordIsAName(Sea s) {
        s.due("words", WORDS.length, 31);
        for (String w : WORDS) {
            faulty("nation " + w + ";", 2, 7);
            faulty("port " + w + ";", 2, 5);
            faulty("nation n;good " + w + " of n worth 1;", 2, 14);
            faulty("port p;ship " + w + " at p hold 1;", 2, 12);
            faulty("port p;way p " + w + " days 1;", 2, 13);
            taken("port " + w + "x;port x" + w + ";");
        }
    }

    private static void oneThingAlone(Sea s) {
        for (String name : new String[] {"n", "g", "p", "s"}) {
            int at = THINGS.length();
            faulty(THINGS + "nation " + name + ";", 3, at + 7);
            faulty(THINGS + "good " + name + " of n worth 1;", 3, at + 5);
            faulty(THINGS + "port " + name + ";", 3, at + 5);
            faulty(THINGS + "ship " + name + " at p hold 1;", 3, at + 5);
        }
    }

    // ---- numbers

    private interface Asked {
        int of(CargoFlag x);
    }

    private static void number(String ahead, String word, int least, int most, int without, Asked asked) {
        Sea s = new Sea("number behind " + ahead + word);
        for (int v : new int[] {least, least + 1, most - 1, most}) {
            s.due(word + v, s.world(ahead + word + v + ";") >= 0, true);
            s.due(word + v, asked.of(s.x), v);
        }
        if (most < 9999) {
            s.badWorld(ahead + word + (most + 1) + ";", 4, (ahead + word).length());
            s.badWorld(ahead + word + "9999;", 4, (ahead + word).length());
        }
        if (least > 0) {
            s.badWorld(ahead + word + (least - 1) + ";", 4, (ahead + word).length());
            s.badWorld(ahead + ";", 2, ahead.length());
        } else {
            s.due("without", s.world(ahead.isEmpty() ? "" : ahead + ";") >= 0, true);
            s.due("without", asked.of(s.x), without);
        }
    }

    private static void atMost(int most, int what, String ahead, String part) {
        Sea s = new Sea("at most " + most + " of " + part);
        StringBuilder t = new StringBuilder(ahead);
        for (int i = 0; i < most; i++) {
            t.append(part.replace('?', (char) ('a' + i)));
            s.due("so many", s.world(t.toString()), what == 3 ? i + 1 : 0);
            s.fine("told", s.x.told(what), i + 1);
        }
        s.badWorld(t + part.replace('?', 'z'), 6, t.length());
        s.fine("the old ones stay", s.x.told(what), most);
    }

    private static void deeds(Sea s) {
        number("nation n", " deeds ", 0, 255, 0, x -> x.nation(0, 2));
        s.world("nation n deeds 129;good g of n worth 1;port p;ship s at p hold 1;aboard s g 1;");
        for (int deed = 0; deed < 8; deed++) {
            s.fine("deed " + deed, s.x.lawful(0, deed), deed == 0 || deed == 7 ? 1 : 0);
        }
    }

    private static void war(Sea s) {
        s.fine("told once", s.world("nation a;nation b;nation c;war a b;"), 0);
        s.fine("a", s.x.nation(0, 3), 2);
        s.fine("b", s.x.nation(1, 3), 1);
        s.fine("c", s.x.nation(2, 3), 0);
        s.fine("told again, and the other way", s.world("nation a;nation b;nation c;war a b;war a b;war b a;"), 0);
        s.fine("a", s.x.nation(0, 3), 2);
        s.fine("b", s.x.nation(1, 3), 1);
        s.fine("war", s.x.war(0, 1, false));
        s.no("nothing more", s.x.war(0, 1, false), 7);
    }

    private static void portsOf(Sea s) {
        s.fine("ports", s.world("nation a;nation b;port p of b;port q;port r of a;"), 0);
        s.fine("of b", s.x.portOf(0), 1);
        s.none("of none", s.x.portOf(1), 6);
        s.fine("of a", s.x.portOf(2), 0);
    }

    private static void prices(Sea s) {
        String ahead = "nation n;good g of n worth 1;good h of n worth 1;port p;";
        number(ahead + "price p g", " ", 1, 99, -1, x -> x.price(0, 0));
        s.fine("told again", s.world(ahead + "price p g 9;price p g 4;"), 0);
        s.fine("the latest", s.x.price(0, 0), 4);
        s.none("not traded", s.x.price(0, 1), 6);
    }

    private static void ways(Sea s) {
        number("port p;port q;way p q days", " ", 1, 20, -1, x -> x.way(0, 1));
        s.fine("told again", s.world("port p;port q;port r;way p q days 9;way q p days 4;way r q days 20;"), 0);
        s.fine("the latest", s.x.way(0, 1), 4);
        s.fine("both ways", s.x.way(1, 0), 4);
        s.fine("both ways", s.x.way(1, 2), 20);
        s.none("none", s.x.way(0, 2), 6);
    }

    private static void aboardInText(Sea s) {
        String ahead = "nation n;good g of n worth 1;good h of n worth 1;port p;ship s at p hold 60;ship t at p hold 7;";
        number(ahead + "aboard s g", " ", 1, 60, -1, x -> x.aboard(0, 0));
        number(ahead + "aboard t h", " ", 1, 7, -1, x -> x.aboard(1, 1));
        number(ahead + "aboard t g 3;aboard t h", " ", 1, 4, -1, x -> x.aboard(1, 1));
        s.fine("told again", s.world(ahead + "aboard t g 3;aboard t h 1;aboard t g 2;aboard s g 60;"), 2);
        s.fine("more", s.x.aboard(1, 0), 5);
        s.fine("the other", s.x.aboard(1, 1), 1);
        s.fine("the other ship", s.x.aboard(0, 0), 60);
        s.fine("just the hold", s.world(ahead + "aboard t g 3;aboard t g 4;"), 2);
        s.fine("seven", s.x.aboard(1, 0), 7);
        faulty(ahead + "aboard t g 3;aboard t g 4;aboard t h 1;", 4, ahead.length() + 37);
    }

    private static void asTheyStand(Sea s) {
        s.fine("mixed", s.world("port z;nation y wage 7;port a of y;ship w at a hold 5;nation b wage 3;good m of b worth 4;ship c at z hold 6;good d of y worth 8;"), 2);
        s.fine("y", s.x.nation(0, 0), 7);
        s.fine("b", s.x.nation(1, 0), 3);
        s.none("z", s.x.portOf(0), 6);
        s.fine("a", s.x.portOf(1), 0);
        s.fine("m", s.x.good(0, 1), 4);
        s.fine("d", s.x.good(1, 1), 8);
        s.fine("w", s.x.ship(0, 0), 1);
        s.fine("c", s.x.ship(1, 0), 0);
    }

    /** Six nations and ports, eight goods, four ships; good h is the second of nation 1, of which ship i has 4 + i tons. */
    private static String full() {
        StringBuilder t = new StringBuilder();
        for (int i = 0; i < 6; i++) {
            char c = (char) ('a' + i);
            t.append("nation n").append(c).append(" wage ").append(i).append(";port p").append(c).append(";");
        }
        for (int i = 0; i < 8; i++) {
            t.append("good g").append((char) ('a' + i)).append(" of n").append((char) ('a' + i % 6)).append(" worth ").append(i + 1).append(" leaks 1;");
        }
        for (int i = 0; i < 4; i++) {
            char c = (char) ('a' + i);
            t.append("ship s").append(c).append(" at p").append(c).append(" hold 60;aboard s").append(c).append(" gh ").append(4 + i).append(";");
        }
        return t.append("war na nf;war nb nf;way pa pf days 1;way pf pd days 2;price pd gh 3;price pf gh 9;").toString();
    }

    private static void allThatThereCanBe(Sea s) {
        s.fine("world", s.world(full()), 4);
        s.fine("tons", s.x.told(8), 22);
        s.fine("none is lawless", s.x.told(7), 0);
        s.fine("weight", s.x.weight(3, 5), 0);
        s.fine("captains", s.x.captains(3), 2);
        s.fine("ruled", s.x.ruled(3), 1);
        s.fine("share", s.x.share(3, 1));
        s.fraction("share", 1, 1);
        s.fine("deeds", s.x.deeds(3), 0);
        s.fine("boarders", s.x.boarders(3), 0);
        s.fine("greatest", s.x.greatest(1), 3);
        s.fine("flagIn", s.x.flagIn(3, 6), 1);
        s.fine("tonsIn", s.x.tonsIn(3, 6), 1);
        s.fine("turns", s.x.turns(3), 7);
        s.fine("flags", s.x.flags(3, 99), 1);
        s.fine("wages", s.x.wages(3, 99), 7);
        s.fine("stowaway", s.x.stowaway(3), 7);
        s.fine("stowawayGood", s.x.stowawayGood(3), 0);
        s.fine("guard", s.x.guard(3, 6), 1);
        s.fine("passFor", s.x.passFor(3, 5), 8);
        s.fine("passGood", s.x.passGood(3, 5), 5);
        s.none("peace", s.x.peace(3), 6);
        s.x.trade(3, 4, 99);
        s.fine("peaceCost", s.x.peaceCost(3), 53 * 99);
        s.x.trade(3, 4, 0);
        s.x.tray(0, 0, 1);
        // Three of ga with gg; of either with each of the six goods of others one.
        s.fine("log", s.x.log(0, 1, 3), 15);
        s.fine("sure", s.x.sure(0, 1, 2), 65);
        s.fine("copyLog", s.x.copyLog(3, 0, 1), 1);
        s.fine("read", s.x.read(0, 0), 1);
        s.fine("buy", s.x.buy(3, 7, 33), 40);
        s.fine("sell", s.x.sell(3, 7, 40), 0);
    }

    private static void waysOfAll(Sea s) {
        s.fine("world", s.world(full()), 4);
        s.fine("best", s.x.best(3, 5), 7);
        s.fine("soonest", s.x.soonest(0, 3), 3);
        s.fine("next", s.x.next(3, 0), 5);
        s.fine("reach", s.x.reach(5), 41);
        // Seven tons sold at 3, forty bought; 38 of them sold at 9; back; 60 bought, two wages, 58 sold.
        s.fine("voyage", s.x.voyage(3, 3), 38 * 9 - 60 * 3 - 2 + 58 * 9);
        s.fine("voyageAt", s.x.voyageAt(3, 3, 0), 5);
        s.fine("voyageAt", s.x.voyageAt(3, 3, 1), 7);
        s.fine("war", s.x.nation(5, 3), 3);
        s.goodVoyages("sail sd pf;day 2;sell sd gh 5;any sd;day 1;", 5);
        s.fine("live", s.x.live(0), 5);
        s.fine("entered", s.x.lived(3), 1);
        s.fine("of the last good none is left", s.x.aboard(3, 7), 0);
        s.fine("mark", s.x.mark(), 1);
        s.fine("day", s.x.day(99), 0);
        s.fine("undo", s.x.undo(), 0);
    }

    private static void aShipAlone(Sea s) {
        s.fine("a ship without nations, goods, ways", s.world("port p;ship s at p hold 60;"), 1);
        s.none("ruled", s.x.ruled(0), 6);
        s.fine("captains", s.x.captains(0), 0);
        s.fine("deeds", s.x.deeds(0), 255);
        s.fine("boarders", s.x.boarders(0), 0);
        s.none("flagIn", s.x.flagIn(0, 9), 6);
        s.fine("tonsIn", s.x.tonsIn(0, 9), 0);
        s.none("turns", s.x.turns(0), 6);
        s.fine("flags", s.x.flags(0, 9), 0);
        s.fine("wages", s.x.wages(0, 9), 0);
        s.none("stowaway", s.x.stowaway(0), 6);
        s.fine("guard", s.x.guard(0, 60), 1);
        s.none("passFor", s.x.passFor(0, 0), 1);
        s.none("peace", s.x.peace(0), 6);
        s.none("voyage", s.x.voyage(0, 3), 6);
        s.fine("soonest", s.x.soonest(0, 0), 0);
        s.fine("reach", s.x.reach(0), 1);
        s.none("no good", s.x.buy(0, 0, 1), 1);
        s.no("no nation", s.x.share(0, 0), 1);
        s.none("sail", s.x.sail(0, 0), 7);
        s.fine("days", s.x.day(99), 0);
        s.fine("coins", s.x.told(9), 100);
    }

    private static void toldAhead(Sea s) {
        faulty("good g of n worth 1;nation n;", 3, 10);
        faulty("port p of n;nation n;", 3, 10);
        faulty("nation n;war n m;nation m;", 3, 15);
        faulty("nation n;war m n;nation m;", 3, 13);
        faulty("ship s at p hold 1;port p;", 3, 10);
        faulty("port p;way p q days 1;port q;", 3, 13);
        faulty("port p;price p g 1;nation n;good g of n worth 1;", 3, 15);
        faulty("nation n;good g of n worth 1;price p g 1;port p;", 3, 35);
        faulty("nation n;good g of n worth 1;port p;aboard s g 1;ship s at p hold 1;", 3, 43);
        faulty("nation n;port p;ship s at p hold 1;aboard s g 1;good g of n worth 1;", 3, 44);
        faulty("port p of p;", 3, 10);
        faulty("good g of g worth 1;", 3, 10);
        faulty("ship s at s hold 1;", 3, 10);
        s.fine("the old world's names are not told", s.world("nation n;"), 0);
        s.badWorld("port p of n;", 3, 10);
    }

    // ---- faults

    private static void firstAlongTheText(Sea s) {
        faulty("nation n wage 21 #", 4, 14);
        faulty("nation n wage 21 99999", 4, 14);
        faulty("port p q #", 2, 7);
        faulty("nation n;war n x #", 3, 15);
        faulty("rule 1;rule #", 5, 7);
        faulty("rule 1;rule 9;", 5, 7);
        faulty("port a;port b;port c;port d;port e;port f;port a;", 6, 42);
        faulty("port a;port b;port c;port d;port e;port f;port #", 6, 42);
        faulty("port p;way p p days 99;", 5, 13);
        // Of one TOKEN: no NATION (3) and itself (5); no NUMBER (1) and too great (4); out of place (2) and rule told (5), one more (6).
        faulty("port p;war p p;", 3, 11);
        faulty("nation n;way n n days 1;", 3, 13);
        faulty("nation n wage 99999;", 1, 14);
        faulty("rule 1;port p rule 1;", 2, 14);
        faulty("port a;port b;port c;port d;port e;port f;way a b port x;", 2, 50);
        faulty("nation n;port n of x;", 3, 14);
        faulty("nation n;port end of x;", 2, 14);
    }

    private static void noToken(Sea s) {
        faulty("#", 1, 0);
        faulty("port p;  \t", 1, 9);
        faulty("port p;\u00ff", 1, 7);
        faulty("port p;A", 1, 7);
        faulty("port p?;", 1, 6);
        faulty("12345", 1, 0);
        faulty("port p;ship s at p hold 123456;", 1, 24);
        faulty("port p 12345;", 1, 7);
        faulty("port p;-1", 1, 7);
        faulty("(", 1, 0);
        taken("port p;ship s at p hold 0006;");
    }

    private static void cannotStand(Sea s) {
        faulty("port", 2, 4);
        faulty("port ", 2, 5);
        faulty("port p", 2, 6);
        faulty("port p \n\n", 2, 9);
        faulty(";", 2, 0);
        faulty("7", 2, 0);
        faulty("abcdefghi", 2, 0);
        faulty("port abcdefghi;", 2, 5);
        faulty("nation n;port p of abcdefghi;", 2, 19);
        faulty("port p abcdefghi", 2, 7);
        faulty("day 1;", 2, 0);
        faulty("rule of;", 2, 5);
        faulty("port 5;", 2, 5);
        faulty("port ;", 2, 5);
    }

    private static void noSuchName(Sea s) {
        int at = THINGS.length();
        for (String no : new String[] {"g", "p", "s", "x"}) {
            faulty(THINGS + "war " + no + " n;", 3, at + 4);
            faulty(THINGS + "war n " + no + ";", 3, at + 6);
            faulty(THINGS + "good h of " + no + " worth 1;", 3, at + 10);
            faulty(THINGS + "port r of " + no + ";", 3, at + 10);
        }
        for (String no : new String[] {"n", "g", "s", "x"}) {
            faulty(THINGS + "price " + no + " g 1;", 3, at + 6);
            faulty(THINGS + "way " + no + " p days 1;", 3, at + 4);
            faulty(THINGS + "way p " + no + " days 1;", 3, at + 6);
            faulty(THINGS + "ship t at " + no + " hold 1;", 3, at + 10);
        }
        for (String no : new String[] {"n", "p", "s", "x"}) {
            faulty(THINGS + "price p " + no + " 1;", 3, at + 8);
            faulty(THINGS + "aboard s " + no + " 1;", 3, at + 9);
        }
        for (String no : new String[] {"n", "g", "p", "x"}) {
            faulty(THINGS + "aboard " + no + " g 1;", 3, at + 7);
        }
    }

    private static void beyondTheHold(Sea s) {
        faulty(THINGS + "aboard s g 10;", 4, THINGS.length() + 11);
        taken(THINGS + "aboard s g 9;");
        faulty(THINGS + "aboard s g 9;aboard s g 1;", 4, THINGS.length() + 24);
        faulty(THINGS + "aboard s g 0;", 4, THINGS.length() + 11);
        faulty(THINGS + "aboard s g 61;", 4, THINGS.length() + 11);
        faulty("port p;ship s at p hold 60;ship t at p hold 61;", 4, 44);
    }

    private static void itself(Sea s) {
        faulty("nation n;war n n;", 5, 15);
        faulty("nation n;war n n", 5, 15);
        faulty("port p;way p p days 1;", 5, 13);
        faulty("rule 0;rule 0;", 5, 7);
        faulty("rule 2;port p;rule", 5, 14);
        faulty("rule 3;rule 0;", 4, 5);
    }

    private static void oneMore(Sea s) {
        String nations = "nation a;nation b;nation c;nation d;nation e;nation f;";
        String goods = "nation n;" + "good a of n worth 1;good b of n worth 1;good c of n worth 1;good d of n worth 1;good e of n worth 1;"
            + "good f of n worth 1;good g of n worth 1;good h of n worth 1;";
        String ports = "port a;port b;port c;port d;port e;port f;";
        String ships = "port p;ship a at p hold 1;ship b at p hold 1;ship c at p hold 1;ship d at p hold 1;";
        taken(nations + ports.replace(";", "x;"));
        faulty(nations + "nation g;", 6, nations.length());
        faulty(nations + "nation", 6, nations.length());
        taken(goods);
        faulty(goods + " good i of n worth 1;", 6, goods.length() + 1);
        faulty(goods + "good", 6, goods.length());
        taken(ports);
        faulty(ports + "port g;", 6, ports.length());
        faulty(ports + "\nport", 6, ports.length() + 1);
        taken(ships);
        faulty(ships + "ship e at p hold 1;", 6, ships.length());
        faulty(ships + "ship", 6, ships.length());
    }

    private static void inPlaceOf(Sea s) {
        s.world(Sea.WORLD);
        s.goodVoyages("day 1;", 1);
        s.x.rule(2);
        s.x.sail(0, 1);
        s.x.day(7);
        s.fine("a smaller one", s.world("nation z;good y of z worth 1;port x;port w;ship v at x hold 3;"), 1);
        int[] due = {1, 1, 2, 1, 0, 0, 0, 1, 0, 100};
        for (int what = 0; what < 10; what++) {
            s.fine("told " + what, s.x.told(what), due[what]);
        }
        s.none("no voyages", s.x.live(0), 6);
        s.fine("no war", s.x.nation(0, 3), 0);
        s.none("no price", s.x.price(0, 0), 6);
        s.none("no way", s.x.way(0, 1), 6);
        s.none("of none", s.x.portOf(0), 6);
        s.fine("nothing aboard", s.x.aboard(0, 0), 0);
        s.fine("it lies", s.x.ship(0, 0), 0);
        s.fine("nothing unpaid", s.x.ship(0, 6), 0);
        s.fine("no duties", s.x.ship(0, 7), 0);
        s.fine("none at all", s.x.world(0), 0);
        for (int what = 0; what < 10; what++) {
            s.fine("told " + what, s.x.told(what), 0);
        }
    }

    /** A ship at sea, unpaid, with duties paid: nothing of it is in the next world, though mean() has put it by. */
    private static void behindAMean(Sea s) {
        String text = "nation a wage 5 duty 2;nation b duty 9;good g of a worth 1;port p;port q of b;way p q days 3;ship s at p hold 9 coins 6;aboard s g 1;rule 1;";
        s.fine("world", s.world(text), 1);
        s.x.sail(0, 1);
        s.x.day(3);
        s.x.pay(0, 9);
        s.x.sail(0, 0);
        s.x.day(1);
        s.fine("at sea", s.x.ship(0, 2), 2);
        s.fine("unpaid", s.x.ship(0, 6), 2);
        s.fine("duties", s.x.ship(0, 7), 1);
        s.goodVoyages("day 1;", 1);
        s.fine("mean", s.x.mean(3, 4));
        s.fine("the same world again", s.world(text), 1);
        int[] due = {0, -1, 0, 9, 6, 1, 0, 0};
        for (int what = 0; what < 8; what++) {
            s.due("ship " + what, s.x.ship(0, what), due[what]);
        }
        s.fine("day 0", s.x.told(5), 0);
        s.none("no voyages", s.x.live(0), 6);
    }

    // ---- promises

    private static void feed(Sea s) {
        // "port", " p ;", then blanks; behind it "rule", " 2 ;".
        s.due("20", s.x.feed(0x706f7274, 0x2070203b, 0x20202020, 0x20202020, 0x0a0a0a0a), 20);
        s.due("40", s.x.feed(0x72756c65, 0x2032203b, 0x20202020, 0x20202020, 0xff000080), 40);
        s.fine("36", s.x.world(36), 0);
        s.fine("a port", s.x.told(2), 1);
        s.fine("rule", s.x.told(4), 2);
        for (int i = 0; i < 5; i++) {
            int[] ints = new int[5];
            java.util.Arrays.fill(ints, 0x20202020);
            for (int b = 0; b < 4; b++) {
                ints[i] = 0x20202020 ^ (0x20 ^ 0xe1) << 24 - 8 * b;
                s.due("twenty", s.x.feed(ints[0], ints[1], ints[2], ints[3], ints[4]), 20);
                s.none("a byte that can't be", s.x.world(20), 9);
                s.due("its place", s.x.fault(1), 4 * i + b);
            }
        }
    }

    private static void feedTooMuch(Sea s) {
        for (int i = 1; i <= 45; i++) {
            s.due("feed", s.x.feed(0x20202020, 0x20202020, 0x20202020, 0x20202020, 0x20202020), 20 * i);
        }
        s.due("920", s.x.feed(0x23232323, 0, 0, 0, 0), -1);
        s.due("920 again", s.x.feed(0x23232323, 0, 0, 0, 0), -1);
        s.none("901", s.x.world(901), 1);
        s.fine("the 900 are as they were", s.x.world(900), 0);
        s.due("room again", s.x.feed(0, 0, 0, 0, 0), 20);
    }

    private static void firstBytes(Sea s) {
        s.feed("port p;port q;port r;");
        s.fine("the first 14", s.x.world(14), 0);
        s.fine("two ports", s.x.told(2), 2);
        s.none("empty then", s.x.world(1), 1);
        s.due("empty then", s.x.feed(0, 0, 0, 0, 0), 20);
        s.fine("the first 0", s.x.world(0), 0);
        s.fine("no ports", s.x.told(2), 0);
        s.none("empty then", s.x.world(1), 1);
        s.due("60", s.feed("port p;ship s at p hold 1;ship t at p hold 12;" + many(" ", 14)), 60);
        s.fine("as many as the tape has", s.x.world(60), 2);
        s.feed("port pp;");
        s.none("a word is cut off by n", s.x.world(6), 9);
        s.due("the end", s.x.fault(0), 2);
        s.due("its place", s.x.fault(1), 6);
        s.feed("rule 22;");
        s.none("a number is cut off by n", s.x.world(6), 9);
        s.due("the end", s.x.fault(0), 2);
        s.due("its place", s.x.fault(1), 6);
        s.feed("rule 1;#");
        s.fine("what is behind them does not matter", s.x.world(7), 0);
        s.feed("port p q            ");
        s.none("by 9, too", s.x.world(20), 9);
        s.none("empty then", s.x.world(1), 1);
    }

    private static void refusedWorld(Sea s) {
        s.world(Sea.WORLD);
        String was = s.all();
        s.none("below 0", s.x.world(-1), 1);
        s.none("far below 0", s.x.world(Integer.MIN_VALUE), 1);
        s.none("more than none", s.x.world(1), 1);
        s.feed("port p;");
        s.none("more than 20", s.x.world(21), 1);
        s.none("far more", s.x.world(Integer.MAX_VALUE), 1);
        s.due("the tape stays", s.x.feed(0, 0, 0, 0, 0), 40);
        s.none("a fault", s.x.world(40), 9);
        s.same("the old one stays", s.all(), was);
    }

    private static void fault(Sea s) {
        s.fine("world", s.world("port p;"), 0);
        s.due("no fault", s.x.fault(0), 0);
        s.due("no place", s.x.fault(1), -1);
        s.none("a fault at 0", s.world("x"), 9);
        s.due("fault", s.x.fault(0), 2);
        s.due("place", s.x.fault(1), 0);
        s.none("by 1 it tells nothing", s.x.world(-1), 1);
        s.due("fault", s.x.fault(0), 2);
        s.none("by 1 it tells nothing", s.x.voyages(301), 1);
        s.due("place", s.x.fault(1), 0);
        s.fine("voyages", s.voyages("day 1;"), 1);
        s.due("no fault", s.x.fault(0), 0);
        s.due("no place", s.x.fault(1), -1);
        s.none("voyages' fault", s.voyages("day 0;"), 9);
        s.due("fault", s.x.fault(0), 4);
        s.due("place", s.x.fault(1), 4);
        s.fine("voyages of none", s.x.voyages(0), 0);
        s.due("no fault", s.x.fault(0), 0);
    }

    private static void faultOfOthers(Sea s) {
        s.due("ahead of any", s.x.fault(0), -1);
        s.due("ahead of any", s.x.fault(1), -1);
        s.none("refused by 1", s.x.world(1), 1);
        s.due("ahead of any", s.x.fault(0), -1);
        s.due("ahead of any", s.x.fault(1), -1);
        s.none("a fault", s.world("port 5"), 9);
        for (int what : new int[] {-1, 2, Integer.MIN_VALUE, Integer.MAX_VALUE}) {
            s.due("others", s.x.fault(what), -1);
        }
        s.due("status stays", s.x.status(), 9);
    }

    private static void told(Sea s) {
        s.world(Sea.WORLD + "rule 1;");
        int[] due = {3, 4, 4, 3, 1, 0};
        for (int what = 0; what < 6; what++) {
            s.fine("told " + what, s.x.told(what), due[what]);
        }
        s.x.day(99);
        s.fine("the day", s.x.told(5), 99);
        s.none("-1", s.x.told(-1), 1);
        s.none("10", s.x.told(10), 1);
        s.none("far", s.x.told(Integer.MIN_VALUE), 1);
    }

    private static void toldOfShips(Sea s) {
        s.world("nation a;nation b;good g of a worth 1;good h of b worth 1;port p;port q;way p q days 2;"
            + "ship s at p hold 60 coins 9999;ship t at p hold 60 coins 9999;ship u at p hold 60 coins 9999;ship v at p hold 60 coins 9999;"
            + "aboard s g 60;aboard t h 60;aboard u g 30;aboard u h 30;aboard v h 60;");
        s.fine("none at sea", s.x.told(6), 0);
        s.fine("u is lawless", s.x.told(7), 4);
        s.fine("all tons", s.x.told(8), 240);
        s.fine("all coins", s.x.told(9), 39996);
        s.x.sail(0, 1);
        s.x.sail(3, 1);
        s.fine("s, v", s.x.told(6), 9);
        s.x.sail(1, 1);
        s.x.sail(2, 1);
        s.fine("all", s.x.told(6), 15);
        s.x.dump(0, 0, 60);
        s.x.dump(3, 1, 60);
        s.fine("empty ones are lawless", s.x.told(7), 13);
        s.x.day(2);
        s.fine("none", s.x.told(6), 0);
        s.fine("tons", s.x.told(8), 120);
        s.fine("coins: t paid 2", s.x.told(9), 39994);
    }

    private static void nation(Sea s) {
        s.world("nation a wage 20 duty 9 deeds 255;nation b wage 0;nation c;nation d;nation e;nation f;war a f;war f e;");
        int[][] due = {{20, 9, 255, 32}, {0, 0, 0, 0}, {1, 0, 0, 0}, {1, 0, 0, 0}, {1, 0, 0, 32}, {1, 0, 0, 17}};
        for (int n = 0; n < 6; n++) {
            for (int what = 0; what < 4; what++) {
                s.fine("nation " + n + " " + what, s.x.nation(n, what), due[n][what]);
            }
        }
        for (int no : new int[] {-1, 6, Integer.MIN_VALUE, Integer.MAX_VALUE}) {
            s.none("nation " + no, s.x.nation(no, 0), 1);
        }
        for (int no : new int[] {-1, 4, Integer.MIN_VALUE, Integer.MAX_VALUE}) {
            s.none("what " + no, s.x.nation(0, no), 1);
        }
    }

    private static void good(Sea s) {
        StringBuilder t = new StringBuilder("nation m;nation n;");
        for (int g = 0; g < 8; g++) {
            t.append("good ").append((char) ('a' + g)).append(g % 2 == 0 ? " of m" : " of n").append(" worth ").append(92 + g).append(" leaks ").append(g + 2).append(";");
        }
        s.world(t.toString().replace("leaks 2;", ";"));
        for (int g = 0; g < 8; g++) {
            s.fine("nation of " + g, s.x.good(g, 0), g % 2);
            s.fine("worth of " + g, s.x.good(g, 1), 92 + g);
            s.fine("leaks of " + g, s.x.good(g, 2), g == 0 ? 0 : g + 2);
        }
        for (int no : new int[] {-1, 8, Integer.MIN_VALUE, Integer.MAX_VALUE}) {
            s.none("good " + no, s.x.good(no, 0), 1);
        }
        for (int no : new int[] {-1, 3, Integer.MIN_VALUE, Integer.MAX_VALUE}) {
            s.none("what " + no, s.x.good(0, no), 1);
        }
    }

    private static void portOf(Sea s) {
        s.world("nation a;nation b;port p of b;port q;port r of a;port t;port u;port v of b;");
        int[] due = {1, -1, 0, -1, -1, 1};
        for (int p = 0; p < 6; p++) {
            s.due("port " + p, s.x.portOf(p), due[p]);
            s.due("status", s.x.status(), due[p] < 0 ? 6 : 0);
        }
        for (int no : new int[] {-1, 6, Integer.MIN_VALUE, Integer.MAX_VALUE}) {
            s.none("port " + no, s.x.portOf(no), 1);
        }
    }

    private static void price(Sea s) {
        s.world("nation n;good g of n worth 1;good h of n worth 1;port p;port q;price p h 99;price q g 1;");
        s.fine("99", s.x.price(0, 1), 99);
        s.fine("1", s.x.price(1, 0), 1);
        s.none("not traded", s.x.price(0, 0), 6);
        s.none("not traded", s.x.price(1, 1), 6);
        for (int no : new int[] {-1, 2, Integer.MIN_VALUE, Integer.MAX_VALUE}) {
            s.none("port " + no, s.x.price(no, 0), 1);
            s.none("good " + no, s.x.price(0, no), 1);
        }
        s.x.trade(0, 1, 0);
        s.none("not traded any more", s.x.price(0, 1), 6);
    }

    private static void way(Sea s) {
        s.world("port p;port q;port r;way q p days 20;way q r days 1;");
        s.fine("20", s.x.way(0, 1), 20);
        s.fine("1", s.x.way(2, 1), 1);
        s.none("none", s.x.way(0, 2), 6);
        s.none("itself", s.x.way(0, 0), 1);
        s.none("itself", s.x.way(2, 2), 1);
        for (int no : new int[] {-1, 3, Integer.MIN_VALUE, Integer.MAX_VALUE}) {
            s.none("port " + no, s.x.way(no, 0), 1);
            s.none("port " + no, s.x.way(0, no), 1);
            s.none("no port and itself", s.x.way(no, no), 1);
        }
    }

    private static void ship(Sea s) {
        s.world("nation a wage 3 duty 9;nation b;good g of b worth 1;good h of a worth 1;port p;port q of a;way p q days 2;"
            + "ship s at p hold 60 coins 19;aboard s g 3;");
        int[] lying = {0, -1, 0, 60, 19, 3, 0, 0};
        shipIs(s, lying);
        s.x.sail(0, 1);
        int[] atSea = {-1, 1, 2, 60, 19, 3, 0, 0};
        shipIs(s, atSea);
        s.x.day(1);
        int[] nearer = {-1, 1, 1, 60, 18, 3, 0, 0};
        shipIs(s, nearer);
        s.x.pay(0, -18);
        s.x.day(1);
        int[] there = {1, -1, 0, 60, 0, 3, 1, 0};
        shipIs(s, there);
        s.x.pay(0, 30);
        s.x.sail(0, 0);
        s.x.day(2);
        s.x.sail(0, 1);
        s.x.day(2);
        int[] paid = {1, -1, 0, 60, 0, 3, 1, 26};
        shipIs(s, paid);
        for (int no : new int[] {-1, 1, Integer.MIN_VALUE, Integer.MAX_VALUE}) {
            s.none("ship " + no, s.x.ship(no, 0), 1);
        }
        for (int no : new int[] {-1, 8, Integer.MIN_VALUE, Integer.MAX_VALUE}) {
            s.none("what " + no, s.x.ship(0, no), 1);
        }
    }

    private static void shipIs(Sea s, int[] due) {
        for (int what = 0; what < 8; what++) {
            s.due("what " + what, s.x.ship(0, what), due[what]);
            s.due("status of what " + what, s.x.status(), due[what] < 0 ? 6 : 0);
        }
    }

    private static void aboard(Sea s) {
        s.world("nation n;good g of n worth 1;good h of n worth 1;port p;ship s at p hold 60;ship t at p hold 1;aboard s h 60;");
        s.fine("none", s.x.aboard(0, 0), 0);
        s.fine("60", s.x.aboard(0, 1), 60);
        s.fine("none", s.x.aboard(1, 1), 0);
        for (int no : new int[] {-1, 2, Integer.MIN_VALUE, Integer.MAX_VALUE}) {
            s.none("ship " + no, s.x.aboard(no, 0), 1);
            s.none("good " + no, s.x.aboard(0, no), 1);
        }
    }
}
