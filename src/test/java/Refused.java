import java.util.ArrayList;
import java.util.List;
import java.util.function.Function;

/** Calls that are refused in one and the same state, each with the STATUS that is due. */
final class Refused {
    static final List<Refused> ALL = new ArrayList<>();

    final String call;
    final int status;
    private final Function<CargoFlag, Object> does;

    private Refused(String call, int status, Function<CargoFlag, Object> does) {
        this.call = call;
        this.status = status;
        this.does = does;
    }

    /** Sea.WORLD with ship two at sea, two trays, three marks, no voyages, and a text on the tape that is neither a world nor voyages. */
    static Sea sea(String name) {
        Sea s = Sea.of(name);
        s.x.sail(1, 2);
        s.x.tray(0, 2, 3);
        s.x.write(0, 1, 9);
        s.x.write(0, 2, -1);
        s.x.tray(1, 0, 2);
        s.x.write(1, 0, 2);
        s.x.share(0, 0);
        s.x.mark();
        s.x.mark();
        s.x.mark();
        s.feed("port p q;");
        return s;
    }

    /** Does the first of these calls with such a STATUS; by 0 one that is not refused. */
    static void one(Sea s, int status) {
        for (Refused r : ALL) {
            if (r.status == status) {
                r.answer(s);
                return;
            }
        }
        s.due("told", s.x.told(0), 3);
    }

    /** What the call answers: NONE and false count as -1. */
    long answer(Sea s) {
        Object got = does.apply(s.x);
        return got instanceof Boolean ? ((Boolean) got ? 1 : -1) : ((Number) got).longValue();
    }

    private static void no(String call, int status, Function<CargoFlag, Object> does) {
        ALL.add(new Refused(call, status, does));
    }

    static {
        trays();
        texts();
        flags();
        done();
        outlook();
        voyages();
    }

    private static void trays() {
        no("tray", 1, x -> x.tray(4, 0, 1));
        no("write", 1, x -> x.write(4, 0, 7));
        no("write", 2, x -> x.write(2, 0, 7));
        no("write", 3, x -> x.write(0, 3, 7));
        no("read", 1, x -> x.read(4, 0));
        no("read", 2, x -> x.read(2, 0));
        no("read", 3, x -> x.read(0, 3));
        no("pour", 1, x -> x.pour(0, 0, 1, 0, -1));
        no("pour", 2, x -> x.pour(0, 0, 2, 0, 1));
        no("pour", 8, x -> x.pour(0, 0, 1, 0, 1));
        no("pour", 3, x -> x.pour(0, 1, 0, 0, 3));
        no("log", 1, x -> x.log(0, 0, 2));
        no("log", 2, x -> x.log(2, 1, 2));
        no("log", 3, x -> x.log(0, 4, 2));
        no("log", 5, x -> x.log(0, 2, 2));
        no("sure", 1, x -> x.sure(0, 1, 1));
        no("sure", 2, x -> x.sure(2, 1, 2));
        no("sure", 3, x -> x.sure(0, 4, 2));
        no("sure", 5, x -> x.sure(0, 2, 2));
        no("sure", 6, x -> x.sure(1, 1, 2));
        no("copyLog", 1, x -> x.copyLog(3, 0, 1));
        no("copyLog", 2, x -> x.copyLog(0, 2, 1));
        no("copyLog", 3, x -> x.copyLog(0, 0, 4));
    }

    private static void texts() {
        no("world", 1, x -> x.world(21));
        no("world", 9, x -> x.world(9));
        no("voyages", 1, x -> x.voyages(21));
        no("voyages", 9, x -> x.voyages(9));
        no("told", 1, x -> x.told(10));
        no("nation", 1, x -> x.nation(3, 0));
        no("good", 1, x -> x.good(4, 0));
        no("portOf", 1, x -> x.portOf(4));
        no("portOf", 6, x -> x.portOf(2));
        no("price", 1, x -> x.price(4, 0));
        no("price", 6, x -> x.price(2, 0));
        no("way", 1, x -> x.way(0, 0));
        no("way", 6, x -> x.way(0, 2));
        no("ship", 1, x -> x.ship(3, 0));
        no("ship", 6, x -> x.ship(1, 0));
        no("ship", 6, x -> x.ship(0, 1));
        no("aboard", 1, x -> x.aboard(0, 4));
    }

    private static void flags() {
        no("weight", 1, x -> x.weight(3, 0));
        no("weightBy", 1, x -> x.weightBy(0, 0, 3));
        no("captains", 1, x -> x.captains(3));
        no("ruled", 1, x -> x.ruled(3));
        no("ruled", 6, x -> x.ruled(2));
        no("ruledBy", 1, x -> x.ruledBy(0, 3));
        no("ruledBy", 6, x -> x.ruledBy(0, 1));
        no("share", 1, x -> x.share(0, 3));
        no("share", 6, x -> x.share(2, 0));
        no("lawful", 1, x -> x.lawful(0, 8));
        no("deeds", 1, x -> x.deeds(3));
        no("board", 1, x -> x.board(0, 0));
        no("boarders", 1, x -> x.boarders(3));
        no("greatest", 1, x -> x.greatest(3));
        no("greatest", 6, x -> x.greatest(2));
    }

    private static void done() {
        no("buy", 1, x -> x.buy(0, 0, 0));
        no("buy", 7, x -> x.buy(0, 3, 1));
        no("sell", 1, x -> x.sell(0, 0, 61));
        no("sell", 7, x -> x.sell(0, 0, 3));
        no("dump", 1, x -> x.dump(0, 4, 1));
        no("dump", 7, x -> x.dump(0, 0, 3));
        no("sail", 1, x -> x.sail(0, 4));
        no("sail", 7, x -> x.sail(0, 2));
        no("day", 1, x -> x.day(100));
        no("pass", 1, x -> x.pass(0, 0, 0, 1));
        no("pass", 7, x -> x.pass(0, 2, 0, 3));
        no("rule", 1, x -> x.rule(3));
        no("war", 1, x -> x.war(0, 3, true));
        no("war", 7, x -> x.war(0, 1, true));
        no("trade", 1, x -> x.trade(0, 0, 100));
        no("pay", 1, x -> x.pay(0, 10000));
        no("pay", 7, x -> x.pay(0, -41));
    }

    private static void outlook() {
        no("flagIn", 1, x -> x.flagIn(0, 100));
        no("flagIn", 6, x -> x.flagIn(0, 1));
        no("tonsIn", 1, x -> x.tonsIn(0, 100));
        no("turns", 1, x -> x.turns(3));
        no("turns", 6, x -> x.turns(2));
        no("flags", 1, x -> x.flags(0, 100));
        no("wages", 1, x -> x.wages(0, 100));
        no("stowaway", 1, x -> x.stowaway(3));
        no("stowawayGood", 1, x -> x.stowawayGood(3));
        no("guard", 1, x -> x.guard(0, 61));
        no("passFor", 1, x -> x.passFor(0, 3));
        no("passGood", 1, x -> x.passGood(3, 0));
        no("passGood", 6, x -> x.passGood(0, 1));
        no("peace", 1, x -> x.peace(3));
        no("peace", 7, x -> x.peace(1));
        no("peace", 6, x -> x.peace(0));
        no("peaceCost", 1, x -> x.peaceCost(3));
        no("peaceCost", 7, x -> x.peaceCost(1));
        no("peaceCost", 6, x -> x.peaceCost(0));
    }

    private static void voyages() {
        no("voyage", 1, x -> x.voyage(0, 4));
        no("voyage", 7, x -> x.voyage(1, 1));
        no("voyageAt", 1, x -> x.voyageAt(0, 1, 2));
        no("voyageAt", 7, x -> x.voyageAt(1, 1, 0));
        no("soonest", 1, x -> x.soonest(0, 4));
        no("soonest", 6, x -> x.soonest(0, 3));
        no("next", 1, x -> x.next(0, 0));
        no("next", 6, x -> x.next(0, 3));
        no("reach", 1, x -> x.reach(4));
        no("best", 1, x -> x.best(0, 0));
        no("best", 6, x -> x.best(1, 2));
        no("live", 1, x -> x.live(10000));
        no("live", 6, x -> x.live(0));
        no("lived", 1, x -> x.lived(5));
        no("lived", 6, x -> x.lived(0));
        no("mean", 1, x -> x.mean(0, 21));
        no("mean", 6, x -> x.mean(0, 1));
        no("mark", 4, x -> x.mark());
    }
}
