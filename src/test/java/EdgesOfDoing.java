/** The sentences of the document on what is done and on days (==== 2), and promises 32 to 41. */
final class EdgesOfDoing {
    /* Two nations without wage and duty, a good of each, three ports in a row; p is of a, q of b, r of none. */
    private static final String CALM = "nation a wage 0;nation b wage 0;good g of a worth 1;good h of b worth 1;port p of a;port q of b;port r;"
        + "way p q days 1;way q r days 20;price p g 5;price p h 99;price q g 7;";
    private static final int[] NO_TONS = {-1, 0, 61, Integer.MIN_VALUE, Integer.MAX_VALUE};

    private EdgesOfDoing() {
    }

    static void tell(Sentences d) {
        tellDays(d);
        tellPromises(d);
    }

    private static void tellDays(Sentences d) {
        d.term("A SHIP lies in a PORT, or is at SEA (on its way to a PORT, with so many DAYS still to go).", EdgesOfDoing::liesOrAtSea);
        d.term("BUY tons (1 to 60) of a GOOD in a PORT where it is traded: as many COINS as its PRICE there each.", EdgesOfDoing::priceEach);
        d.term("SELL likewise (9,999 COINS at most: what is more is lost).", EdgesOfDoing::coinsAtMost);
        d.term("DUMP: tons go overboard, anywhere.", EdgesOfDoing::overboard);
        d.term("SAIL by a WAY from the PORT where it lies.", EdgesOfDoing::byAWay);
        d.term("A DAY goes by (to 9,999), SHIP by SHIP, by numbers:", EdgesOfDoing::toTheLastDay);
        d.term("1. if it is at SEA it pays the WAGE of the NATION by which it is RULED now (LAWLESS: nothing);", EdgesOfDoing::wageAtSea);
        d.term("if it has not so much it pays nothing, and is UNPAID by a DAY more.", EdgesOfDoing::unpaid);
        d.term("2. of each GOOD aboard so many tons LEAK (0 at least).", EdgesOfDoing::leaks);
        d.term("3. if it is at SEA it has a DAY less to go; if none is left it lies in that PORT and pays DUTY:", EdgesOfDoing::entersAPort);
        d.term("if the PORT is of a NATION, and it is not RULED by that: its DUTY for each ton aboard (or all COINS, if that is more).", EdgesOfDoing::duty);
        d.term("Then the DAY is 1 more.", EdgesOfDoing::oneMoreDay);
    }

    private static void tellPromises(Sentences d) {
        d.promise(32, "BUY: tons of that GOOD aboard then (1: tons 1 to 60; 7: at SEA, not traded, no room, too few COINS).", EdgesOfDoing::buy);
        d.promise(33, "SELL: tons of it aboard still (1; 7: at SEA, not traded, not so much).", EdgesOfDoing::sell);
        d.promise(34, "DUMP: tons of it aboard still (1; 7: not so much).", EdgesOfDoing::dump);
        d.promise(35, "SAIL: DAYS (1; 7: at SEA, no WAY, it lies there).", EdgesOfDoing::sail);
        d.promise(36, "So many DAYS (1 to 99) go by: the set of SHIPS that lay in a PORT anew in them", EdgesOfDoing::day);
        d.promise(36, "(1; 4: above 9,999).", EdgesOfDoing::dayTooFar);
        d.promise(37, "Tons (1 to 60) of a GOOD pass from a SHIP to another one (1: one and itself, too; 7: not in one PORT, not so much, no room).",
            EdgesOfDoing::pass);
        d.promise(38, "RULE from now on (0 to 2) (1).", EdgesOfDoing::rule);
        d.promise(39, "WAR between two NATIONS, or peace (1: one and itself, too; 7: it is so).", EdgesOfDoing::war);
        d.promise(40, "PRICE of a GOOD in a PORT is another one (0: not traded; to 99) (1).", EdgesOfDoing::trade);
        d.promise(41, "A SHIP gets so many COINS more (-9,999 to 9,999): COINS then (1; 7: below 0, above 9,999).", EdgesOfDoing::pay);
    }

    private static void liesOrAtSea(Sea s) {
        s.world(CALM + "ship s at p hold 1;ship t at r hold 1;");
        s.x.sail(1, 1);
        s.fine("it lies", s.x.ship(0, 0), 0);
        s.none("it lies", s.x.ship(0, 1), 6);
        s.fine("it lies", s.x.ship(0, 2), 0);
        for (int left = 20; left > 0; left--) {
            s.none("at sea", s.x.ship(1, 0), 6);
            s.fine("on its way", s.x.ship(1, 1), 1);
            s.fine("still to go", s.x.ship(1, 2), left);
            s.fine("at sea", s.x.told(6), 2);
            s.fine("a day", s.x.day(1), left == 1 ? 2 : 0);
        }
        s.fine("there", s.x.ship(1, 0), 1);
        s.none("it lies", s.x.ship(1, 1), 6);
        s.fine("it lies", s.x.ship(1, 2), 0);
    }

    private static void priceEach(Sea s) {
        s.world(CALM + "ship s at p hold 60 coins 300;");
        s.fine("60 tons", s.x.buy(0, 0, 60), 60);
        s.fine("five each", s.x.ship(0, 4), 0);
        s.fine("one ton back", s.x.sell(0, 0, 1), 59);
        s.fine("five", s.x.ship(0, 4), 5);
        s.fine("and again", s.x.buy(0, 0, 1), 60);
        s.fine("none", s.x.ship(0, 4), 0);
    }

    private static void coinsAtMost(Sea s) {
        s.world(CALM + "ship s at p hold 60 coins 9989;aboard s g 5;aboard s h 55;");
        s.fine("two: just 9,999", s.x.sell(0, 0, 2), 3);
        s.fine("9,999", s.x.ship(0, 4), 9999);
        s.x.pay(0, -4);
        s.fine("one: 10,000", s.x.sell(0, 0, 1), 2);
        s.fine("what is more is lost", s.x.ship(0, 4), 9999);
        s.fine("all of h for nothing", s.x.sell(0, 1, 55), 0);
        s.fine("still", s.x.ship(0, 4), 9999);
        s.x.pay(0, -9999);
        s.fine("two", s.x.sell(0, 0, 2), 0);
        s.fine("ten", s.x.ship(0, 4), 10);
    }

    private static void overboard(Sea s) {
        s.world(CALM + "ship s at r hold 60 coins 5;aboard s g 60;");
        s.fine("in a port that does not trade it", s.x.dump(0, 0, 1), 59);
        s.x.sail(0, 1);
        s.fine("at sea", s.x.dump(0, 0, 58), 1);
        s.fine("the last", s.x.dump(0, 0, 1), 0);
        s.fine("nothing aboard", s.x.ship(0, 5), 0);
        s.fine("no coins for it", s.x.ship(0, 4), 5);
    }

    private static void byAWay(Sea s) {
        s.world(CALM + "ship s at p hold 60;");
        s.none("no way", s.x.sail(0, 2), 7);
        s.fine("a day", s.x.sail(0, 1), 1);
        s.none("at sea it lies in none", s.x.sail(0, 0), 7);
        s.x.day(1);
        s.fine("20 days", s.x.sail(0, 2), 20);
    }

    private static void toTheLastDay(Sea s) {
        s.world(CALM + "ship s at r hold 60;ship t at p hold 1;");
        for (int i = 0; i < 100; i++) {
            s.x.day(99);
        }
        s.x.day(78);
        s.x.sail(0, 1);
        s.fine("9,978", s.x.told(5), 9978);
        s.fine("to 9,998", s.x.day(20), 1);
        s.x.sail(0, 0);
        s.fine("the last day", s.x.day(1), 1);
        s.fine("9,999", s.x.told(5), 9999);
        s.x.sail(0, 1);
        s.none("no more", s.x.day(1), 4);
        s.fine("it stays at sea", s.x.ship(0, 2), 1);
        s.fine("9,999", s.x.told(5), 9999);
    }

    private static void wageAtSea(Sea s) {
        String world = "nation a wage 20;nation b wage 3;good g of a worth 1 leaks 1;good h of b worth 1;port p;port q;way p q days 5;"
            + "ship s at p hold 60 coins 100;aboard s g 4;aboard s h 3;";
        s.world(world);
        s.x.day(1);
        s.fine("in a port it pays nothing", s.x.ship(0, 4), 100);
        s.world(world);
        s.x.sail(0, 1);
        int[] coins = {80, 80, 77, 74, 71};
        for (int i = 0; i < 5; i++) {
            s.x.day(1);
            s.fine("a's wage, lawless, then b's, day " + i, s.x.ship(0, 4), coins[i]);
        }
        s.x.day(1);
        s.fine("in a port it pays nothing", s.x.ship(0, 4), 71);
        s.fine("never unpaid", s.x.ship(0, 6), 0);
        s.x.dump(0, 1, 3);
        s.x.sail(0, 0);
        s.x.day(4);
        s.fine("an empty one is lawless", s.x.ship(0, 4), 71);
    }

    private static void unpaid(Sea s) {
        s.world("nation a wage 20;good g of a worth 1;port p;port q;way p q days 9;ship s at p hold 60 coins 39;aboard s g 4;");
        s.x.sail(0, 1);
        s.x.day(1);
        s.fine("paid", s.x.ship(0, 4), 19);
        s.fine("none unpaid", s.x.ship(0, 6), 0);
        s.x.day(1);
        s.fine("one too few: nothing is paid", s.x.ship(0, 4), 19);
        s.fine("one unpaid", s.x.ship(0, 6), 1);
        s.x.pay(0, 1);
        s.x.day(1);
        s.fine("just so much", s.x.ship(0, 4), 0);
        s.fine("still one", s.x.ship(0, 6), 1);
        s.x.day(3);
        s.fine("without coins", s.x.ship(0, 4), 0);
        s.fine("four unpaid", s.x.ship(0, 6), 4);
        s.world("nation a wage 0;good g of a worth 1;port p;port q;way p q days 9;ship s at p hold 60 coins 0;aboard s g 4;");
        s.x.sail(0, 1);
        s.x.day(3);
        s.fine("a wage of 0 can be paid", s.x.ship(0, 6), 0);
    }

    private static void leaks(Sea s) {
        s.world("nation a;good g of a worth 1 leaks 9;good h of a worth 1 leaks 1;good i of a worth 1;port p;port q;way p q days 20;"
            + "ship s at p hold 60;aboard s g 28;aboard s h 2;aboard s i 5;ship t at p hold 9;aboard t g 9;");
        s.x.sail(1, 1);
        int[][] due = {{19, 1, 5}, {10, 0, 5}, {1, 0, 5}, {0, 0, 5}, {0, 0, 5}};
        for (int day = 0; day < 5; day++) {
            s.x.day(1);
            for (int g = 0; g < 3; g++) {
                s.fine("good " + g + " by day " + day, s.x.aboard(0, g), due[day][g]);
            }
            s.fine("just so many are gone", s.x.aboard(1, 0), 0);
        }
    }

    private static void entersAPort(Sea s) {
        s.world("nation a wage 2 duty 9;nation b wage 3;good g of a worth 1 leaks 2;good h of b worth 1;port p of a;port q of a;way p q days 2;"
            + "ship s at p hold 60 coins 100;aboard s g 5;aboard s h 2;");
        s.x.sail(0, 1);
        s.fine("a day less", s.x.day(1), 0);
        s.fine("to go", s.x.ship(0, 2), 1);
        s.fine("no duty at sea", s.x.ship(0, 7), 0);
        s.fine("it lies in that port", s.x.day(1), 1);
        // Wages of a twice: 5 and 3 tons against 2; behind the second leak it is b's, 1 against 2: a's duty for three tons.
        s.fine("coins", s.x.ship(0, 4), 100 - 2 - 2 - 27);
        s.fine("duties", s.x.ship(0, 7), 27);
        s.x.day(3);
        s.fine("only once", s.x.ship(0, 7), 27);
    }

    private static void duty(Sea s) {
        String ahead = "nation a wage 0 duty 9;nation b wage 0;good g of a worth 1;good h of b worth 1;port p;port q of a;port r of b;"
            + "way p q days 1;way p r days 1;";
        String[] ships = {"coins 37;aboard s h 4;", "coins 36;aboard s h 4;", "coins 35;aboard s h 4;", "coins 0;aboard s h 4;", "coins 50;aboard s g 4;",
            "coins 50;aboard s g 2;aboard s h 2;", "coins 50;", "coins 9999;aboard s h 60;"};
        int[] paid = {36, 36, 35, 0, 0, 36, 0, 540};
        for (int i = 0; i < ships.length; i++) {
            s.world(ahead + "ship s at p hold 60 " + ships[i]);
            int coins = s.x.ship(0, 4);
            s.x.sail(0, 1);
            s.fine("enters", s.x.day(1), 1);
            s.fine("duties of " + ships[i], s.x.ship(0, 7), paid[i]);
            s.fine("coins of " + ships[i], s.x.ship(0, 4), coins - paid[i]);
            s.x.sail(0, 0);
            s.x.day(1);
            s.fine("a port of none", s.x.ship(0, 7), paid[i]);
            s.x.sail(0, 2);
            s.x.day(1);
            s.fine("a duty of 0", s.x.ship(0, 7), paid[i]);
        }
    }

    private static void oneMoreDay(Sea s) {
        s.fine("0", s.x.told(5), 0);
        s.fine("one", s.x.day(1), 0);
        s.fine("1", s.x.told(5), 1);
        s.fine("98", s.x.day(98), 0);
        s.fine("99", s.x.told(5), 99);
    }

    // ---- promises

    private static void buy(Sea s) {
        s.world(CALM + "ship s at p hold 60 coins 301;ship t at p hold 3 coins 9999;ship u at r hold 60;");
        for (int no : NO_TONS) {
            s.none("tons " + no, s.x.buy(0, 0, no), 1);
        }
        for (int no : new int[] {-1, 3, Integer.MAX_VALUE}) {
            s.none("ship " + no, s.x.buy(no, 0, 1), 1);
        }
        for (int no : new int[] {-1, 2, Integer.MAX_VALUE}) {
            s.none("good " + no, s.x.buy(0, no, 1), 1);
        }
        s.none("not traded", s.x.buy(2, 0, 1), 7);
        s.none("too few coins: 4 at 99", s.x.buy(0, 1, 4), 7);
        s.fine("3 at 99", s.x.buy(0, 1, 3), 3);
        s.fine("four are left", s.x.ship(0, 4), 4);
        s.none("a coin too few", s.x.buy(0, 0, 1), 7);
        s.x.pay(0, 1);
        s.fine("just enough", s.x.buy(0, 0, 1), 1);
        s.none("no room", s.x.buy(1, 0, 4), 7);
        s.fine("just the room", s.x.buy(1, 0, 3), 3);
        s.none("full", s.x.buy(1, 1, 1), 7);
        s.x.dump(1, 0, 1);
        s.fine("one more", s.x.buy(1, 0, 1), 3);
        s.x.dump(1, 0, 3);
        s.x.sail(1, 1);
        s.none("at sea", s.x.buy(1, 0, 1), 7);
        s.fine("coins are as they were", s.x.ship(1, 4), 9999 - 20);
        s.x.day(1);
        s.fine("in a port again", s.x.buy(1, 0, 1), 1);
    }

    private static void sell(Sea s) {
        s.world(CALM + "ship s at p hold 60 coins 0;aboard s g 60;ship t at q hold 60;aboard t h 5;");
        for (int no : NO_TONS) {
            s.none("tons " + no, s.x.sell(0, 0, no), 1);
        }
        for (int no : new int[] {-1, 2, Integer.MAX_VALUE}) {
            s.none("ship " + no, s.x.sell(no, 0, 1), 1);
            s.none("good " + no, s.x.sell(0, no, 1), 1);
        }
        s.none("not traded", s.x.sell(1, 1, 1), 7);
        s.none("none of it", s.x.sell(0, 1, 1), 7);
        s.fine("one", s.x.sell(0, 0, 1), 59);
        s.none("one too many", s.x.sell(0, 0, 60), 7);
        s.fine("all", s.x.sell(0, 0, 59), 0);
        s.fine("coins", s.x.ship(0, 4), 300);
        s.x.buy(0, 0, 1);
        s.x.sail(0, 1);
        s.none("at sea", s.x.sell(0, 0, 1), 7);
        s.x.day(1);
        s.fine("in a port again", s.x.sell(0, 0, 1), 0);
        s.fine("seven there", s.x.ship(0, 4), 302);
    }

    private static void dump(Sea s) {
        s.world(CALM + "ship s at p hold 60;aboard s g 60;");
        for (int no : NO_TONS) {
            s.none("tons " + no, s.x.dump(0, 0, no), 1);
        }
        for (int no : new int[] {-1, 1, Integer.MAX_VALUE}) {
            s.none("ship " + no, s.x.dump(no, 0, 1), 1);
        }
        for (int no : new int[] {-1, 2, Integer.MAX_VALUE}) {
            s.none("good " + no, s.x.dump(0, no, 1), 1);
        }
        s.none("none of it", s.x.dump(0, 1, 1), 7);
        s.fine("one", s.x.dump(0, 0, 1), 59);
        s.none("one too many", s.x.dump(0, 0, 60), 7);
        s.fine("all", s.x.dump(0, 0, 59), 0);
        s.none("none is left", s.x.dump(0, 0, 1), 7);
    }

    private static void sail(Sea s) {
        s.world(CALM + "ship s at p hold 60;ship t at r hold 1;");
        for (int no : new int[] {-1, 2, Integer.MIN_VALUE, Integer.MAX_VALUE}) {
            s.none("ship " + no, s.x.sail(no, 0), 1);
        }
        for (int no : new int[] {-1, 3, Integer.MIN_VALUE, Integer.MAX_VALUE}) {
            s.none("port " + no, s.x.sail(0, no), 1);
        }
        s.none("no way", s.x.sail(0, 2), 7);
        s.none("it lies there", s.x.sail(0, 0), 7);
        s.fine("still", s.x.ship(0, 0), 0);
        s.fine("a day", s.x.sail(0, 1), 1);
        s.none("at sea", s.x.sail(0, 1), 7);
        s.none("at sea", s.x.sail(0, 0), 7);
        s.fine("20 days", s.x.sail(1, 1), 20);
        s.fine("as it was", s.x.ship(0, 1), 1);
    }

    private static void day(Sea s) {
        s.world(CALM + "ship s at p hold 1;ship t at q hold 1;ship u at r hold 1;ship v at p hold 1;");
        s.none("0", s.x.day(0), 1);
        s.none("-1", s.x.day(-1), 1);
        s.none("100", s.x.day(100), 1);
        s.none("far", s.x.day(Integer.MAX_VALUE), 1);
        s.none("far", s.x.day(Integer.MIN_VALUE), 1);
        s.fine("none went by", s.x.told(5), 0);
        s.fine("none sails", s.x.day(1), 0);
        s.x.sail(0, 1);
        s.x.sail(1, 2);
        s.x.sail(3, 1);
        s.fine("the first day: s, v", s.x.day(1), 9);
        s.fine("18 more: none", s.x.day(18), 0);
        s.fine("the 20th: t", s.x.day(1), 2);
        s.x.sail(0, 0);
        s.x.sail(1, 1);
        s.x.sail(2, 1);
        s.fine("99: s, t, u", s.x.day(99), 7);
        s.fine("once only", s.x.day(99), 0);
        s.fine("days", s.x.told(5), 1 + 1 + 18 + 1 + 99 + 99);
    }

    private static void dayTooFar(Sea s) {
        for (int i = 0; i < 100; i++) {
            s.x.day(99);
        }
        s.fine("9,900", s.x.told(5), 9900);
        s.x.day(1);
        s.none("99: 10,000", s.x.day(99), 4);
        s.fine("none went by", s.x.told(5), 9901);
        s.fine("98: 9,999", s.x.day(98), 0);
        s.none("one", s.x.day(1), 4);
        s.none("0 is 1 still", s.x.day(0), 1);
        s.fine("9,999", s.x.told(5), 9999);
        s.fine("a new world is of day 0", s.x.world(0), 0);
        s.fine("days again", s.x.day(99), 0);
    }

    private static void pass(Sea s) {
        s.world(CALM + "ship s at p hold 60;ship t at p hold 60;ship u at q hold 60;ship v at p hold 2;aboard s g 60;aboard u g 1;");
        for (int no : NO_TONS) {
            s.no("tons " + no, s.x.pass(0, 1, 0, no), 1);
        }
        for (int no : new int[] {-1, 4, Integer.MAX_VALUE}) {
            s.no("ship " + no, s.x.pass(no, 0, 0, 1), 1);
            s.no("other " + no, s.x.pass(0, no, 0, 1), 1);
        }
        for (int no : new int[] {-1, 2, Integer.MAX_VALUE}) {
            s.no("good " + no, s.x.pass(0, 1, no, 1), 1);
        }
        s.no("itself", s.x.pass(0, 0, 0, 1), 1);
        s.no("not in one port", s.x.pass(0, 2, 0, 1), 7);
        s.no("not in one port", s.x.pass(2, 0, 0, 1), 7);
        s.no("none of it", s.x.pass(0, 1, 1, 1), 7);
        s.no("no room", s.x.pass(0, 3, 0, 3), 7);
        s.fine("just the room", s.x.pass(0, 3, 0, 2));
        s.no("full", s.x.pass(0, 3, 0, 1), 7);
        s.no("not so much", s.x.pass(0, 1, 0, 59), 7);
        s.fine("all", s.x.pass(0, 1, 0, 58));
        s.fine("gone", s.x.aboard(0, 0), 0);
        s.fine("there", s.x.aboard(1, 0), 58);
        s.fine("back", s.x.pass(3, 1, 0, 2));
        s.fine("60", s.x.pass(1, 0, 0, 60));
        s.fine("there", s.x.aboard(0, 0), 60);
        s.x.sail(0, 1);
        s.no("one at sea", s.x.pass(0, 1, 0, 1), 7);
        s.x.sail(1, 1);
        s.no("both at sea", s.x.pass(0, 1, 0, 1), 7);
        s.x.day(1);
        s.fine("in one port", s.x.pass(0, 2, 0, 59));
    }

    private static void rule(Sea s) {
        for (int no : new int[] {-1, 3, Integer.MIN_VALUE, Integer.MAX_VALUE}) {
            s.no("rule " + no, s.x.rule(no), 1);
        }
        s.fine("0 stays", s.x.told(4), 0);
        for (int rule : new int[] {2, 2, 1, 0}) {
            s.fine("rule " + rule, s.x.rule(rule));
            s.fine("told", s.x.told(4), rule);
        }
        s.world("nation a;nation b;good g of a worth 9;good h of b worth 1;port p;ship s at p hold 9;aboard s g 1;aboard s h 2;");
        s.fine("by tons", s.x.ruled(0), 1);
        s.x.rule(2);
        s.fine("by worth", s.x.ruled(0), 0);
    }

    private static void war(Sea s) {
        s.world("nation a;nation b;nation c;war a b;");
        s.no("it is so", s.x.war(0, 1, true), 7);
        s.no("it is so", s.x.war(1, 0, true), 7);
        s.no("it is so", s.x.war(0, 2, false), 7);
        for (int no : new int[] {-1, 3, 31, 32, Integer.MIN_VALUE, Integer.MAX_VALUE}) {
            s.no("nation " + no, s.x.war(no, 0, true), 1);
            s.no("nation " + no, s.x.war(0, no, false), 1);
        }
        for (int n = 0; n < 3; n++) {
            s.no("itself", s.x.war(n, n, true), 1);
            s.no("itself", s.x.war(n, n, false), 1);
        }
        s.fine("peace", s.x.war(1, 0, false));
        s.fine("a", s.x.nation(0, 3), 0);
        s.fine("b", s.x.nation(1, 3), 0);
        s.fine("war", s.x.war(2, 1, true));
        s.fine("b", s.x.nation(1, 3), 4);
        s.fine("c", s.x.nation(2, 3), 2);
        s.fine("war", s.x.war(2, 0, true));
        s.fine("c", s.x.nation(2, 3), 3);
        s.fine("peace", s.x.war(2, 1, false));
        s.fine("c", s.x.nation(2, 3), 1);
        s.fine("a", s.x.nation(0, 3), 4);
    }

    private static void trade(Sea s) {
        s.world(CALM + "ship s at p hold 9 coins 99;aboard s g 1;");
        for (int no : new int[] {-1, 100, Integer.MIN_VALUE, Integer.MAX_VALUE}) {
            s.no("price " + no, s.x.trade(0, 0, no), 1);
        }
        for (int no : new int[] {-1, 3, Integer.MAX_VALUE}) {
            s.no("port " + no, s.x.trade(no, 0, 1), 1);
        }
        for (int no : new int[] {-1, 2, Integer.MAX_VALUE}) {
            s.no("good " + no, s.x.trade(0, no, 1), 1);
        }
        s.fine("as it was", s.x.price(0, 0), 5);
        s.fine("the same", s.x.trade(0, 0, 5));
        s.fine("99", s.x.trade(0, 0, 99));
        s.fine("99", s.x.price(0, 0), 99);
        s.fine("1", s.x.trade(0, 0, 1));
        s.fine("1", s.x.price(0, 0), 1);
        s.fine("0", s.x.trade(0, 0, 0));
        s.none("not traded", s.x.price(0, 0), 6);
        s.none("not traded", s.x.sell(0, 0, 1), 7);
        s.none("not traded", s.x.buy(0, 0, 1), 7);
        s.fine("0 again", s.x.trade(0, 0, 0));
        s.fine("traded anew", s.x.trade(2, 1, 3));
        s.fine("3", s.x.price(2, 1), 3);
    }

    private static void pay(Sea s) {
        s.world(CALM + "ship s at p hold 9 coins 0;ship t at p hold 9 coins 9999;");
        for (int no : new int[] {-10000, 10000, Integer.MIN_VALUE, Integer.MAX_VALUE}) {
            s.none("coins " + no, s.x.pay(0, no), 1);
            s.none("coins " + no, s.x.pay(1, no), 1);
        }
        for (int no : new int[] {-1, 2, Integer.MAX_VALUE}) {
            s.none("ship " + no, s.x.pay(no, 0), 1);
        }
        s.none("below 0", s.x.pay(0, -1), 7);
        s.none("far below 0", s.x.pay(0, -9999), 7);
        s.fine("nothing", s.x.pay(0, 0), 0);
        s.fine("9,999", s.x.pay(0, 9999), 9999);
        s.fine("all of it", s.x.pay(0, -9999), 0);
        s.none("above 9,999", s.x.pay(1, 1), 7);
        s.none("far above", s.x.pay(1, 9999), 7);
        s.fine("as it was", s.x.ship(1, 4), 9999);
        s.fine("one fewer", s.x.pay(1, -1), 9998);
        s.none("two more", s.x.pay(1, 2), 7);
        s.fine("one more", s.x.pay(1, 1), 9999);
    }
}
