/** Promises 32 to 41, and the days. */
public final class DoingTest {
    public static void main(String[] args) {
        buy();
        sell();
        dump();
        sail();
        dayAtSea();
        unpaid();
        duty();
        flagOfThatDay();
        days();
        pass();
        rule();
        war();
        trade();
        pay();
        Sea.end("DoingTest");
    }

    private static void buy() {
        Sea s = Sea.of("buy");
        s.fine("two", s.x.buy(0, 0, 2), 4);
        s.fine("coins", s.x.ship(0, 4), 30);
        s.none("not traded", s.x.buy(0, 3, 1), 7);
        s.none("no room", s.x.buy(0, 1, 4), 7);
        s.fine("to the last ton", s.x.buy(0, 1, 3), 6);
        s.fine("tons", s.x.ship(0, 5), 10);
        s.none("full", s.x.buy(0, 1, 1), 7);
        s.none("tons 0", s.x.buy(2, 0, 0), 1);
        s.none("tons 61", s.x.buy(2, 0, 61), 1);
        s.none("tons -1", s.x.buy(2, 0, -1), 1);
        s.none("no ship", s.x.buy(3, 0, 1), 1);
        s.none("no good", s.x.buy(0, 4, 1), 1);
        s.fine("60", s.x.buy(2, 0, 60), 60);
        s.x.pay(1, -82);
        s.none("too few coins", s.x.buy(1, 0, 3), 7);
        s.fine("just enough", s.x.buy(1, 0, 2), 2);
        s.fine("no coins are left", s.x.ship(1, 4), 0);
        s.x.sail(2, 1);
        s.none("at sea", s.x.buy(2, 1, 1), 7);
    }

    private static void sell() {
        Sea s = Sea.of("sell");
        s.fine("one", s.x.sell(0, 0, 1), 1);
        s.fine("coins", s.x.ship(0, 4), 45);
        s.none("not so much", s.x.sell(0, 0, 2), 7);
        s.none("tons 0", s.x.sell(0, 0, 0), 1);
        s.none("tons 61", s.x.sell(0, 0, 61), 1);
        s.none("no ship", s.x.sell(-1, 0, 1), 1);
        s.none("no good", s.x.sell(0, -1, 1), 1);
        s.fine("all", s.x.sell(0, 1, 3), 0);
        s.x.buy(2, 0, 5);
        s.x.pay(2, 20);
        s.fine("beyond 9,999", s.x.sell(2, 0, 5), 0);
        s.fine("what is more is lost", s.x.ship(2, 4), 9999);
        s.x.trade(1, 1, 0);
        s.none("not traded", s.x.sell(1, 1, 1), 7);
        s.x.trade(1, 1, 2);
        s.x.sail(1, 0);
        s.none("at sea", s.x.sell(1, 1, 1), 7);
    }

    private static void dump() {
        Sea s = Sea.of("dump");
        s.fine("one", s.x.dump(0, 0, 1), 1);
        s.fine("no coins for it", s.x.ship(0, 4), 40);
        s.none("not so much", s.x.dump(0, 0, 2), 7);
        s.none("tons 0", s.x.dump(0, 0, 0), 1);
        s.none("tons 61", s.x.dump(0, 0, 61), 1);
        s.none("no ship", s.x.dump(3, 0, 1), 1);
        s.none("no good", s.x.dump(0, 4, 1), 1);
        s.x.sail(0, 1);
        s.fine("at sea, too", s.x.dump(0, 1, 3), 0);
        s.none("none is left", s.x.dump(0, 1, 1), 7);
    }

    private static void sail() {
        Sea s = Sea.of("sail");
        s.none("no way", s.x.sail(0, 2), 7);
        s.none("it lies there", s.x.sail(0, 0), 7);
        s.none("no ship", s.x.sail(3, 0), 1);
        s.none("no port", s.x.sail(0, 4), 1);
        s.none("no port", s.x.sail(0, -1), 1);
        s.fine("days", s.x.sail(1, 2), 3);
        s.none("at sea", s.x.sail(1, 1), 7);
        s.none("at sea", s.x.sail(1, 2), 7);
    }

    private static void dayAtSea() {
        Sea s = Sea.of("day at sea");
        s.x.sail(1, 2);
        s.fine("no port yet", s.x.day(1), 0);
        s.fine("a wage of blue", s.x.ship(1, 4), 98);
        s.fine("two tons leak", s.x.aboard(1, 1), 3);
        s.fine("to go", s.x.ship(1, 2), 2);
        s.fine("in port: no wage", s.x.ship(0, 4), 40);
        s.fine("in port: leaks", s.x.aboard(0, 0), 1);
        s.fine("no port yet", s.x.day(1), 0);
        s.fine("a wage", s.x.ship(1, 4), 96);
        s.fine("leaks", s.x.aboard(1, 1), 1);
        s.fine("it enters", s.x.day(1), 2);
        s.fine("a wage", s.x.ship(1, 4), 94);
        s.fine("0 at least", s.x.aboard(1, 1), 0);
        s.fine("lies there", s.x.ship(1, 0), 2);
        s.none("sails no more", s.x.ship(1, 1), 6);
        s.fine("nothing to go", s.x.ship(1, 2), 0);
        s.fine("a port of none has no duty", s.x.ship(1, 7), 0);
        s.x.sail(1, 1);
        s.fine("two days, lawless", s.x.day(2), 0);
        s.fine("no wage", s.x.ship(1, 4), 94);
        s.fine("enters anew", s.x.day(3), 2);
        s.fine("day", s.x.told(5), 8);
    }

    private static void unpaid() {
        Sea s = Sea.of("unpaid");
        s.x.pay(1, -97);
        s.x.sail(1, 2);
        s.x.day(1);
        s.fine("paid", s.x.ship(1, 4), 1);
        s.fine("none unpaid", s.x.ship(1, 6), 0);
        s.x.day(1);
        s.fine("nothing is paid", s.x.ship(1, 4), 1);
        s.fine("unpaid", s.x.ship(1, 6), 1);
        s.x.day(1);
        s.fine("unpaid", s.x.ship(1, 6), 2);
    }

    private static void duty() {
        Sea s = new Sea("duty");
        String w = "nation a wage 0 duty 3;nation b wage 0 duty 9;good g of a worth 1;good h of b worth 1;"
            + "port p of a;port q of b;port r;way p q days 1;way q r days 1;way p r days 1;ship s at p hold 20 coins 50;aboard s g 4;";
        s.world(w);
        s.x.sail(0, 1);
        s.fine("enters b", s.x.day(1), 1);
        s.fine("nine a ton", s.x.ship(0, 4), 14);
        s.fine("duties", s.x.ship(0, 7), 36);
        s.x.sail(0, 0);
        s.x.day(1);
        s.fine("its own port", s.x.ship(0, 4), 14);
        s.x.sail(0, 2);
        s.x.day(1);
        s.fine("a port of none", s.x.ship(0, 4), 14);
        s.x.sail(0, 1);
        s.x.day(1);
        s.fine("all coins", s.x.ship(0, 4), 0);
        s.fine("duties", s.x.ship(0, 7), 50);
        s.world(w + "aboard s h 4;");
        s.x.sail(0, 2);
        s.x.day(1);
        s.x.sail(0, 0);
        s.x.day(1);
        s.fine("a lawless one pays in any: 3 x 8", s.x.ship(0, 7), 24);
    }

    private static void flagOfThatDay() {
        // b leads by its leaking good; the first day's wage is b's, that day's leak makes a the ruler, who has no duty.
        Sea s = new Sea("flag of that day");
        s.world("nation a wage 5 duty 9;nation b wage 7 duty 9;good g of a worth 1;good h of b worth 1 leaks 2;"
            + "port p of b;port q of a;way p q days 1;ship s at p hold 20 coins 50;aboard s g 3;aboard s h 4;");
        s.x.sail(0, 1);
        s.fine("enters", s.x.day(1), 1);
        s.fine("b's wage alone", s.x.ship(0, 4), 43);
        s.fine("no duty", s.x.ship(0, 7), 0);
        s.x.sail(0, 0);
        s.x.day(1);
        s.fine("a's wage, b's duty for three tons", s.x.ship(0, 4), 43 - 5 - 27);
    }

    private static void days() {
        Sea s = Sea.of("days");
        s.none("0", s.x.day(0), 1);
        s.none("100", s.x.day(100), 1);
        s.none("-1", s.x.day(-1), 1);
        s.x.sail(0, 1);
        s.x.sail(1, 0);
        s.x.sail(2, 1);
        s.fine("99 days: who entered", s.x.day(99), 7);
        for (int i = 0; i < 100; i++) {
            s.x.day(99);
        }
        s.fine("day 9,999", s.x.told(5), 9999);
        s.none("no more", s.x.day(1), 4);
        s.fine("stays", s.x.told(5), 9999);
        s.none("1 comes first", s.x.day(0), 1);
        s = new Sea("the last days");
        for (int i = 0; i < 100; i++) {
            s.x.day(99);
        }
        s.x.day(90);
        s.none("beyond", s.x.day(10), 4);
        s.fine("up to", s.x.day(9), 0);
    }

    private static void pass() {
        Sea s = Sea.of("pass");
        s.fine("two", s.x.pass(0, 2, 0, 2));
        s.fine("from", s.x.aboard(0, 0), 0);
        s.fine("to", s.x.aboard(2, 0), 2);
        s.no("not so much", s.x.pass(0, 2, 0, 1), 7);
        s.no("not in one port", s.x.pass(0, 1, 1, 1), 7);
        s.no("itself", s.x.pass(0, 0, 1, 1), 1);
        s.no("no ship", s.x.pass(0, 3, 1, 1), 1);
        s.no("no ship", s.x.pass(-1, 0, 1, 1), 1);
        s.no("no good", s.x.pass(0, 2, 4, 1), 1);
        s.no("tons 0", s.x.pass(0, 2, 1, 0), 1);
        s.no("tons 61", s.x.pass(0, 2, 1, 61), 1);
        s.x.buy(2, 0, 58);
        s.no("no room", s.x.pass(0, 2, 1, 1), 7);
        s.no("no room", s.x.pass(2, 0, 0, 8), 7);
        s.fine("the last room", s.x.pass(2, 0, 0, 7));
        s.x.sail(0, 1);
        s.x.sail(2, 1);
        s.no("both at sea", s.x.pass(0, 2, 1, 1), 7);
        s.x.day(2);
        s.fine("in a port again", s.x.pass(2, 0, 0, 1));
    }

    private static void rule() {
        Sea s = Sea.of("rule");
        s.no("3", s.x.rule(3), 1);
        s.no("-1", s.x.rule(-1), 1);
        s.fine("0 stays", s.x.told(4), 0);
        for (int r = 2; r >= 0; r--) {
            s.fine("rule", s.x.rule(r));
            s.fine("told", s.x.told(4), r);
        }
    }

    private static void war() {
        Sea s = Sea.of("war");
        s.no("it is so", s.x.war(1, 0, true), 7);
        s.no("it is so", s.x.war(0, 2, false), 7);
        s.fine("war", s.x.war(2, 0, true));
        s.fine("red", s.x.nation(0, 3), 6);
        s.fine("green", s.x.nation(2, 3), 1);
        s.fine("peace", s.x.war(1, 0, false));
        s.fine("red", s.x.nation(0, 3), 4);
        s.fine("blue", s.x.nation(1, 3), 0);
        s.no("itself", s.x.war(1, 1, true), 1);
        s.no("no nation", s.x.war(0, 3, true), 1);
        s.no("no nation", s.x.war(-1, 0, false), 1);
    }

    private static void trade() {
        Sea s = Sea.of("trade");
        s.fine("99", s.x.trade(2, 0, 99));
        s.fine("price", s.x.price(2, 0), 99);
        s.fine("another", s.x.trade(2, 0, 1));
        s.fine("price", s.x.price(2, 0), 1);
        s.fine("not traded", s.x.trade(2, 0, 0));
        s.none("price", s.x.price(2, 0), 6);
        s.no("100", s.x.trade(2, 0, 100), 1);
        s.no("-1", s.x.trade(2, 0, -1), 1);
        s.no("no port", s.x.trade(4, 0, 1), 1);
        s.no("no good", s.x.trade(0, 4, 1), 1);
    }

    private static void pay() {
        Sea s = Sea.of("pay");
        s.fine("more", s.x.pay(0, 60), 100);
        s.fine("fewer", s.x.pay(0, -100), 0);
        s.none("below 0", s.x.pay(0, -1), 7);
        s.fine("all", s.x.pay(0, 9999), 9999);
        s.none("above", s.x.pay(0, 1), 7);
        s.fine("none", s.x.pay(0, 0), 9999);
        s.none("10,000", s.x.pay(0, 10000), 1);
        s.none("-10,000", s.x.pay(0, -10000), 1);
        s.none("far", s.x.pay(0, Integer.MIN_VALUE), 1);
        s.none("no ship", s.x.pay(3, 0), 1);
    }
}
