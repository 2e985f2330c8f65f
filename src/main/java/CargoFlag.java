import java.util.Arrays;

/** Ships that take flag and law from what they carry; ../shared/DOC.md says what each call promises. */
public final class CargoFlag {
    public static final int NONE = -1;

    private static final int MOST_NATIONS = 6;
    private static final int MOST_GOODS = 8;
    private static final int MOST_PORTS = 6;
    private static final int MOST_SHIPS = 4;
    private static final int MOST_TONS = 60;
    private static final int MOST_COINS = 9999;
    private static final int LAST_DAY = 9999;
    private static final int LAST_SEED = 9999;
    private static final int LAST_DEED = 7;
    private static final int ALL_DEEDS = 255;
    private static final int LAST_RULE = 2;
    private static final int MOST_PRICE = 99;
    private static final int MOST_WAY = 20;
    private static final int FAR_DAYS = 99;
    private static final int MOST_LEGS = 3;
    private static final int LOG_DAYS = 20;
    private static final int MOST_MARKS = 3;
    private static final int MOST_SEEDS = 20;
    private static final int WORLD_BYTES = 900;
    private static final int VOYAGE_BYTES = 300;
    private static final int MOST_STEPS = 30;
    private static final int MOST_NESTED = 3;
    private static final int MOST_LIVED_STEPS = 300;
    private static final int MOST_LOOPS = 99;
    private static final int MOST_STEP_DAYS = 20;

    /* The kinds of things that bear a NAME, numbered as told() counts them. */
    private static final int NATION = 0;
    private static final int GOOD = 1;
    private static final int PORT = 2;
    private static final int SHIP = 3;
    private static final int KINDS = 4;

    /* STATUS of a call. */
    private static final int FINE = 0;
    private static final int WRONG = 1;
    private static final int MISSING = 2;
    private static final int NO_PLACE = 3;
    private static final int TOO_MANY = 4;
    private static final int BAD_NUMBER = 5;
    private static final int NO_SUCH = 6;
    private static final int CANNOT = 7;
    private static final int UNLIKE = 8;
    private static final int FAULTY = 9;

    /* FAULTS of a text. */
    private static final int NO_TOKEN = 1;
    private static final int OUT_OF_PLACE = 2;
    private static final int BAD_NAME = 3;
    private static final int BAD_VALUE = 4;
    private static final int TWICE = 5;
    private static final int ONE_MORE = 6;
    private static final int TOO_DEEP = 7;

    /* The words that no NAME may be; each is known by its number in this row. */
    private static final String WORDS = "nation wage duty deeds war good of worth leaks port price way days ship at hold coins aboard rule day buy sell dump sail any when ruled in loop end stop";
    private static final int WORD_COUNT = 31;
    private static final int W_NATION = 0;
    private static final int W_WAGE = 1;
    private static final int W_DUTY = 2;
    private static final int W_DEEDS = 3;
    private static final int W_WAR = 4;
    private static final int W_GOOD = 5;
    private static final int W_OF = 6;
    private static final int W_WORTH = 7;
    private static final int W_LEAKS = 8;
    private static final int W_PORT = 9;
    private static final int W_PRICE = 10;
    private static final int W_WAY = 11;
    private static final int W_DAYS = 12;
    private static final int W_SHIP = 13;
    private static final int W_AT = 14;
    private static final int W_HOLD = 15;
    private static final int W_COINS = 16;
    private static final int W_ABOARD = 17;
    private static final int W_RULE = 18;
    private static final int W_DAY = 19;
    private static final int W_BUY = 20;
    private static final int W_SELL = 21;
    private static final int W_DUMP = 22;
    private static final int W_SAIL = 23;
    private static final int W_ANY = 24;
    private static final int W_WHEN = 25;
    private static final int W_RULED = 26;
    private static final int W_IN = 27;
    private static final int W_LOOP = 28;
    private static final int W_END = 29;
    private static final int W_STOP = 30;

    private final Trays trays = new Trays();
    private final Tape tape = new Tape();
    private final WorldText worldText = new WorldText();
    private final VoyageText voyageText = new VoyageText();
    private final State now = new State();
    private final State draft = new State();
    private final State[] marks = new State[MOST_MARKS];
    private final Outlook outlook = new Outlook();
    private final Search search = new Search();
    private final Life life = new Life();
    private final int[] latest = new int[Life.TALLIES];
    private boolean hasLived = false;
    private int markCount = 0;
    private int faultKind = NONE;
    private int faultPlace = NONE;
    private int status = FINE;
    private long top = 0;
    private long bottom = 1;

    public CargoFlag() {
        for (int i = 0; i < MOST_MARKS; i++) {
            marks[i] = new State();
        }
    }

    // ---- what a call answers

    public int status() {
        return status;
    }

    public long top() {
        return top;
    }

    public long bottom() {
        return bottom;
    }

    private int answer(int value) {
        status = FINE;
        return value;
    }

    private int refuse(int why) {
        status = why;
        return NONE;
    }

    private boolean agree() {
        status = FINE;
        return true;
    }

    private boolean deny(int why) {
        status = why;
        return false;
    }

    private int answerOr(int value, int whyNone) {
        return value == NONE ? refuse(whyNone) : answer(value);
    }

    private void tellFraction(long part, long whole) {
        long a = part;
        long b = whole;
        for (int i = 0; i < 100 && b != 0; i++) {
            long rest = a % b;
            a = b;
            b = rest;
        }
        top = a == 0 ? 0 : part / a;
        bottom = a == 0 ? 1 : whole / a;
    }

    private static boolean within(int value, int least, int most) {
        return value >= least && value <= most;
    }

    private boolean isNation(int nation) {
        return within(nation, 0, now.chart.count[NATION] - 1);
    }

    private boolean isGood(int good) {
        return within(good, 0, now.chart.count[GOOD] - 1);
    }

    private boolean isPort(int port) {
        return within(port, 0, now.chart.count[PORT] - 1);
    }

    private boolean isShip(int ship) {
        return within(ship, 0, now.chart.count[SHIP] - 1);
    }

    private boolean areTwo(int a, int b, int kind) {
        int last = now.chart.count[kind] - 1;
        return within(a, 0, last) && within(b, 0, last) && a != b;
    }

    private int rulerOf(int ship) {
        return now.chart.ruler(now.fleet[ship].tons, now.chart.law);
    }

    private int captainsOf(int ship) {
        return now.chart.captainSet(now.fleet[ship].tons, now.chart.law);
    }

    // ---- TRAYS

    public boolean tray(int tray, int sort, int many) {
        if (!Trays.isTray(tray) || !within(sort, 0, Trays.LAST_SORT) || !within(many, 0, Trays.MOST_NUMBERS)) {
            return deny(WRONG);
        }
        trays.lay(tray, sort, many);
        return agree();
    }

    public boolean write(int tray, int place, long v) {
        int why = trays.troubleAt(tray, place);
        if (why != FINE) {
            return deny(why);
        }
        trays.put(tray, place, v);
        return agree();
    }

    public long read(int tray, int place) {
        int why = trays.troubleAt(tray, place);
        status = why;
        return why == FINE ? trays.rows[tray][place] : NONE;
    }

    public boolean pour(int from, int place, int to, int at, int many) {
        if (!Trays.isTray(from) || !Trays.isTray(to) || place < 0 || at < 0 || many < 0) {
            return deny(WRONG);
        }
        if (trays.isMissing(from) || trays.isMissing(to)) {
            return deny(MISSING);
        }
        if (trays.sorts[from] != trays.sorts[to]) {
            return deny(UNLIKE);
        }
        if (!trays.hasFrom(from, place, many) || !trays.hasFrom(to, at, many)) {
            return deny(NO_PLACE);
        }
        System.arraycopy(trays.rows[from], place, trays.rows[to], at, many);
        return agree();
    }

    // ---- texts

    public int feed(int a, int b, int c, int d, int e) {
        if (tape.length + Tape.FED_BYTES > WORLD_BYTES) {
            return NONE;
        }
        tape.append(a);
        tape.append(b);
        tape.append(c);
        tape.append(d);
        tape.append(e);
        return tape.length;
    }

    public int world(int n) {
        if (!within(n, 0, tape.length)) {
            return refuse(WRONG);
        }
        tape.begin(n);
        boolean taken = worldText.takes(tape, draft);
        noteFault();
        if (!taken) {
            return refuse(FAULTY);
        }
        now.copyFrom(draft);
        return answer(now.chart.count[SHIP]);
    }

    public int voyages(int n) {
        if (!within(n, 0, Math.min(tape.length, VOYAGE_BYTES))) {
            return refuse(WRONG);
        }
        tape.begin(n);
        boolean taken = voyageText.takes(tape, now.chart, draft.plan);
        noteFault();
        if (!taken) {
            return refuse(FAULTY);
        }
        now.plan.copyFrom(draft.plan);
        return answer(now.plan.steps);
    }

    private void noteFault() {
        tape.length = 0;
        faultKind = tape.fault;
        faultPlace = tape.fault == 0 ? NONE : tape.place;
    }

    public int fault(int what) {
        if (what == 0) {
            return faultKind;
        }
        return what == 1 ? faultPlace : NONE;
    }

    public int told(int what) {
        if (within(what, 0, KINDS - 1)) {
            return answer(now.chart.count[what]);
        }
        switch (what) {
            case 4: return answer(now.chart.law);
            case 5: return answer(now.date);
            case 6: return answer(now.atSea());
            case 7: return answer(now.lawless());
            case 8: return answer(now.allTons());
            case 9: return answer(now.allCoins());
            default: return refuse(WRONG);
        }
    }

    public int nation(int nation, int what) {
        if (!isNation(nation)) {
            return refuse(WRONG);
        }
        switch (what) {
            case 0: return answer(now.chart.wage[nation]);
            case 1: return answer(now.chart.duty[nation]);
            case 2: return answer(now.chart.deedSet[nation]);
            case 3: return answer(now.chart.foes[nation]);
            default: return refuse(WRONG);
        }
    }

    public int good(int good, int what) {
        if (!isGood(good)) {
            return refuse(WRONG);
        }
        switch (what) {
            case 0: return answer(now.chart.origin[good]);
            case 1: return answer(now.chart.worth[good]);
            case 2: return answer(now.chart.leak[good]);
            default: return refuse(WRONG);
        }
    }

    public int portOf(int port) {
        if (!isPort(port)) {
            return refuse(WRONG);
        }
        return answerOr(now.chart.owner[port], NO_SUCH);
    }

    public int price(int port, int good) {
        if (!isPort(port) || !isGood(good)) {
            return refuse(WRONG);
        }
        int price = now.chart.prices[port][good];
        return price == 0 ? refuse(NO_SUCH) : answer(price);
    }

    public int way(int a, int b) {
        if (!areTwo(a, b, PORT)) {
            return refuse(WRONG);
        }
        int days = now.chart.days[a][b];
        return days == 0 ? refuse(NO_SUCH) : answer(days);
    }

    public int ship(int ship, int what) {
        if (!isShip(ship)) {
            return refuse(WRONG);
        }
        Vessel v = now.fleet[ship];
        switch (what) {
            case 0: return answerOr(v.port, NO_SUCH);
            case 1: return answerOr(v.goal, NO_SUCH);
            case 2: return answer(v.toGo);
            case 3: return answer(v.hold);
            case 4: return answer(v.coins);
            case 5: return answer(v.load());
            case 6: return answer(v.unpaid);
            case 7: return answer(v.duties);
            default: return refuse(WRONG);
        }
    }

    public int aboard(int ship, int good) {
        if (!isShip(ship) || !isGood(good)) {
            return refuse(WRONG);
        }
        return answer(now.fleet[ship].tons[good]);
    }

    // ---- flags

    public int weight(int ship, int nation) {
        return weightBy(ship, nation, now.chart.law);
    }

    public int weightBy(int ship, int nation, int rule) {
        if (!isShip(ship) || !isNation(nation) || !within(rule, 0, LAST_RULE)) {
            return refuse(WRONG);
        }
        return answer(now.chart.heft(now.fleet[ship].tons, nation, rule));
    }

    public int captains(int ship) {
        if (!isShip(ship)) {
            return refuse(WRONG);
        }
        return answer(captainsOf(ship));
    }

    public int ruled(int ship) {
        return ruledBy(ship, now.chart.law);
    }

    public int ruledBy(int ship, int rule) {
        if (!isShip(ship) || !within(rule, 0, LAST_RULE)) {
            return refuse(WRONG);
        }
        return answerOr(now.chart.ruler(now.fleet[ship].tons, rule), NO_SUCH);
    }

    public boolean share(int ship, int nation) {
        if (!isShip(ship) || !isNation(nation)) {
            return deny(WRONG);
        }
        Chart c = now.chart;
        c.weigh(now.fleet[ship].tons, c.law);
        int all = 0;
        for (int n = 0; n < c.count[NATION]; n++) {
            all += c.scale[n];
        }
        if (all == 0) {
            return deny(NO_SUCH);
        }
        tellFraction(c.scale[nation], all);
        return agree();
    }

    public int lawful(int ship, int deed) {
        if (!isShip(ship) || !within(deed, 0, LAST_DEED)) {
            return refuse(WRONG);
        }
        return answer((lawfulDeeds(ship) >> deed) & 1);
    }

    public int deeds(int ship) {
        if (!isShip(ship)) {
            return refuse(WRONG);
        }
        return answer(lawfulDeeds(ship));
    }

    private int lawfulDeeds(int ship) {
        int captains = captainsOf(ship);
        if (captains == 0) {
            return ALL_DEEDS;
        }
        int some = 0;
        int every = ALL_DEEDS;
        for (int n = 0; n < now.chart.count[NATION]; n++) {
            if ((captains >> n & 1) != 0) {
                some |= now.chart.deedSet[n];
                every &= now.chart.deedSet[n];
            }
        }
        // A single CAPTAIN's law is his DEEDS alone; several allow what none of them knows, too.
        return Integer.bitCount(captains) == 1 ? every : every | (ALL_DEEDS & ~some);
    }

    public int board(int ship, int other) {
        if (!areTwo(ship, other, SHIP)) {
            return refuse(WRONG);
        }
        return answer(mayBoard(ship, other) ? 1 : 0);
    }

    public int boarders(int ship) {
        if (!isShip(ship)) {
            return refuse(WRONG);
        }
        int set = 0;
        for (int other = 0; other < now.chart.count[SHIP]; other++) {
            if (other != ship && mayBoard(other, ship)) {
                set |= 1 << other;
            }
        }
        return answer(set);
    }

    private boolean mayBoard(int ship, int other) {
        int one = rulerOf(ship);
        int two = rulerOf(other);
        return one != NONE && two != NONE && now.chart.atWar(one, two);
    }

    public int greatest(int nation) {
        if (!isNation(nation)) {
            return refuse(WRONG);
        }
        int most = 0;
        int found = NONE;
        for (int s = 0; s < now.chart.count[SHIP]; s++) {
            int tons = now.chart.heft(now.fleet[s].tons, nation, 0);
            if (tons > most) {
                most = tons;
                found = s;
            }
        }
        return answerOr(found, NO_SUCH);
    }

    // ---- what is done

    private boolean isLading(int ship, int good, int tons) {
        return isShip(ship) && isGood(good) && within(tons, 1, MOST_TONS);
    }

    public int buy(int ship, int good, int tons) {
        if (!isLading(ship, good, tons)) {
            return refuse(WRONG);
        }
        Vessel v = now.fleet[ship];
        return v.buys(now.chart, good, tons) ? answer(v.tons[good]) : refuse(CANNOT);
    }

    public int sell(int ship, int good, int tons) {
        if (!isLading(ship, good, tons)) {
            return refuse(WRONG);
        }
        Vessel v = now.fleet[ship];
        return v.sells(now.chart, good, tons) ? answer(v.tons[good]) : refuse(CANNOT);
    }

    public int dump(int ship, int good, int tons) {
        if (!isLading(ship, good, tons)) {
            return refuse(WRONG);
        }
        Vessel v = now.fleet[ship];
        return v.dumps(good, tons) ? answer(v.tons[good]) : refuse(CANNOT);
    }

    public int sail(int ship, int port) {
        if (!isShip(ship) || !isPort(port)) {
            return refuse(WRONG);
        }
        Vessel v = now.fleet[ship];
        return v.sails(now.chart, port) ? answer(v.toGo) : refuse(CANNOT);
    }

    public int day(int many) {
        if (!within(many, 1, FAR_DAYS)) {
            return refuse(WRONG);
        }
        if (now.date + many > LAST_DAY) {
            return refuse(TOO_MANY);
        }
        int landed = 0;
        for (int d = 0; d < many; d++) {
            landed |= now.passDay();
        }
        return answer(landed);
    }

    public boolean pass(int ship, int other, int good, int tons) {
        if (!areTwo(ship, other, SHIP) || !isGood(good) || !within(tons, 1, MOST_TONS)) {
            return deny(WRONG);
        }
        Vessel from = now.fleet[ship];
        Vessel to = now.fleet[other];
        if (from.port == NONE || from.port != to.port || from.tons[good] < tons || to.room() < tons) {
            return deny(CANNOT);
        }
        from.tons[good] -= tons;
        to.tons[good] += tons;
        return agree();
    }

    public boolean rule(int rule) {
        if (!within(rule, 0, LAST_RULE)) {
            return deny(WRONG);
        }
        now.chart.law = rule;
        return agree();
    }

    public boolean war(int a, int b, boolean is) {
        if (!areTwo(a, b, NATION)) {
            return deny(WRONG);
        }
        if (now.chart.atWar(a, b) == is) {
            return deny(CANNOT);
        }
        now.chart.setWar(a, b, is);
        return agree();
    }

    public boolean trade(int port, int good, int price) {
        if (!isPort(port) || !isGood(good) || !within(price, 0, MOST_PRICE)) {
            return deny(WRONG);
        }
        now.chart.prices[port][good] = price;
        return agree();
    }

    public int pay(int ship, int coins) {
        if (!isShip(ship) || !within(coins, -MOST_COINS, MOST_COINS)) {
            return refuse(WRONG);
        }
        Vessel v = now.fleet[ship];
        if (!within(v.coins + coins, 0, MOST_COINS)) {
            return refuse(CANNOT);
        }
        v.coins += coins;
        return answer(v.coins);
    }

    // ---- what would be

    private boolean isOutlook(int ship, int days) {
        return isShip(ship) && within(days, 0, FAR_DAYS);
    }

    public int flagIn(int ship, int days) {
        if (!isOutlook(ship, days)) {
            return refuse(WRONG);
        }
        return answerOr(outlook.flagAfter(now.chart, now.fleet[ship], days), NO_SUCH);
    }

    public int tonsIn(int ship, int days) {
        if (!isOutlook(ship, days)) {
            return refuse(WRONG);
        }
        return answer(outlook.tonsAfter(now.chart, now.fleet[ship], days));
    }

    public int turns(int ship) {
        if (!isShip(ship)) {
            return refuse(WRONG);
        }
        return answerOr(outlook.daysToTurn(now.chart, now.fleet[ship]), NO_SUCH);
    }

    public int flags(int ship, int days) {
        if (!isOutlook(ship, days)) {
            return refuse(WRONG);
        }
        return answer(outlook.flagsBegun(now.chart, now.fleet[ship], days));
    }

    public int wages(int ship, int days) {
        if (!isOutlook(ship, days)) {
            return refuse(WRONG);
        }
        return answer(outlook.wagesDue(now.chart, now.fleet[ship], days));
    }

    public int stowaway(int ship) {
        return stowawayAt(ship, false);
    }

    public int stowawayGood(int ship) {
        return stowawayAt(ship, true);
    }

    private int stowawayAt(int ship, boolean theGood) {
        if (!isShip(ship)) {
            return refuse(WRONG);
        }
        if (!outlook.findStowaway(now.chart, now.fleet[ship])) {
            return refuse(NO_SUCH);
        }
        return answer(theGood ? outlook.foundGood : outlook.foundAmount);
    }

    public int guard(int ship, int tons) {
        if (!isShip(ship) || !within(tons, 1, MOST_TONS)) {
            return refuse(WRONG);
        }
        return answer(outlook.isGuarded(now.chart, now.fleet[ship], tons) ? 1 : 0);
    }

    public int passFor(int ship, int nation) {
        return passAt(ship, nation, false);
    }

    public int passGood(int ship, int nation) {
        return passAt(ship, nation, true);
    }

    private int passAt(int ship, int nation, boolean theGood) {
        if (!isShip(ship) || !isNation(nation)) {
            return refuse(WRONG);
        }
        if (!outlook.findPass(now.chart, now.fleet[ship], nation)) {
            return refuse(NO_SUCH);
        }
        return theGood ? answerOr(outlook.foundGood, NO_SUCH) : answer(outlook.foundAmount);
    }

    public int peace(int ship) {
        return peaceAt(ship, true);
    }

    public int peaceCost(int ship) {
        return peaceAt(ship, false);
    }

    private int peaceAt(int ship, boolean theGood) {
        if (!isShip(ship)) {
            return refuse(WRONG);
        }
        if (now.fleet[ship].port == NONE) {
            return refuse(CANNOT);
        }
        if (!outlook.findPeace(now.chart, now.fleet[ship])) {
            return refuse(NO_SUCH);
        }
        return answer(theGood ? outlook.foundGood : outlook.foundAmount);
    }

    // ---- voyages

    public int voyage(int ship, int legs) {
        return seekVoyage(ship, legs) ? answer(search.bestCoins) : NONE;
    }

    public int voyageAt(int ship, int legs, int what) {
        if (!within(what, 0, 1)) {
            return refuse(WRONG);
        }
        if (!seekVoyage(ship, legs)) {
            return NONE;
        }
        return answer(what == 0 ? search.bestPort : search.bestGood);
    }

    private boolean seekVoyage(int ship, int legs) {
        if (!isShip(ship) || !within(legs, 1, MOST_LEGS)) {
            return deny(WRONG);
        }
        if (now.fleet[ship].port == NONE) {
            return deny(CANNOT);
        }
        return search.finds(now.chart, now.fleet[ship], legs) ? agree() : deny(NO_SUCH);
    }

    public int soonest(int a, int b) {
        if (!isPort(a) || !isPort(b)) {
            return refuse(WRONG);
        }
        now.chart.measureFrom(a);
        return answerOr(now.chart.far[b], NO_SUCH);
    }

    public int next(int a, int b) {
        if (!areTwo(a, b, PORT)) {
            return refuse(WRONG);
        }
        return answerOr(now.chart.firstTowards(a, b), NO_SUCH);
    }

    public int reach(int port) {
        if (!isPort(port)) {
            return refuse(WRONG);
        }
        now.chart.measureFrom(port);
        int set = 0;
        for (int p = 0; p < now.chart.count[PORT]; p++) {
            if (now.chart.far[p] != NONE) {
                set |= 1 << p;
            }
        }
        return answer(set);
    }

    public int best(int a, int b) {
        if (!areTwo(a, b, PORT)) {
            return refuse(WRONG);
        }
        int most = 0;
        int found = NONE;
        for (int g = 0; g < now.chart.count[GOOD]; g++) {
            int paid = now.chart.prices[a][g];
            int got = now.chart.prices[b][g];
            if (paid > 0 && got > 0 && got - paid > most) {
                most = got - paid;
                found = g;
            }
        }
        return answerOr(found, NO_SUCH);
    }

    // ---- logs

    public int log(int tray, int n, int h) {
        return seekLog(tray, n, h) ? answer(outlook.ways) : NONE;
    }

    public int sure(int tray, int n, int h) {
        if (!seekLog(tray, n, h)) {
            return NONE;
        }
        return outlook.ways == 0 ? refuse(NO_SUCH) : answer(outlook.inAllWays);
    }

    private boolean seekLog(int tray, int n, int h) {
        if (!Trays.isTray(tray) || !within(n, 1, LOG_DAYS) || !within(h, 2, MOST_TONS)) {
            return deny(WRONG);
        }
        int why = trays.troubleFirst(tray, n);
        if (why != FINE) {
            return deny(why);
        }
        for (int d = 0; d < n; d++) {
            long flag = trays.rows[tray][d];
            if (flag < NONE || flag >= now.chart.count[NATION]) {
                return deny(BAD_NUMBER);
            }
            outlook.seen[d] = (int) flag;
        }
        outlook.countWays(now.chart, n, h);
        return agree();
    }

    public int copyLog(int ship, int tray, int n) {
        if (!isShip(ship) || !Trays.isTray(tray) || !within(n, 1, LOG_DAYS)) {
            return refuse(WRONG);
        }
        int why = trays.troubleFirst(tray, n);
        if (why != FINE) {
            return refuse(why);
        }
        for (int d = 0; d < n; d++) {
            trays.put(tray, d, outlook.flagAfter(now.chart, now.fleet[ship], d));
        }
        return answer(n);
    }

    // ---- VOYAGES

    public int live(int seed) {
        if (!within(seed, 0, LAST_SEED)) {
            return refuse(WRONG);
        }
        if (!now.plan.there) {
            return refuse(NO_SUCH);
        }
        int steps = life.runs(now, seed);
        System.arraycopy(life.tally, 0, latest, 0, Life.TALLIES);
        hasLived = true;
        return answer(steps);
    }

    public int lived(int what) {
        if (!within(what, 0, Life.TALLIES - 1)) {
            return refuse(WRONG);
        }
        return hasLived ? answer(latest[what]) : refuse(NO_SUCH);
    }

    public boolean mean(int seed, int many) {
        if (!within(seed, 0, LAST_SEED) || !within(many, 1, MOST_SEEDS) || seed + many - 1 > LAST_SEED) {
            return deny(WRONG);
        }
        if (!now.plan.there) {
            return deny(NO_SUCH);
        }
        long all = 0;
        draft.copyFrom(now);
        for (int i = 0; i < many; i++) {
            life.runs(now, seed + i);
            all += now.allCoins();
            now.copyFleet(draft);
        }
        tellFraction(all, many);
        return agree();
    }

    // ---- MARKS

    public int mark() {
        if (!within(markCount, 0, MOST_MARKS - 1)) {
            return refuse(TOO_MANY);
        }
        marks[markCount].copyFrom(now);
        markCount++;
        return answer(markCount);
    }

    public int undo() {
        if (!within(markCount, 1, MOST_MARKS)) {
            return refuse(NO_SUCH);
        }
        markCount--;
        now.copyFrom(marks[markCount]);
        return answer(markCount);
    }

    /** The four rows of numbers. */
    private static final class Trays {
        static final int COUNT = 4;
        static final int LAST_SORT = 3;
        static final int MOST_NUMBERS = 60;

        final long[][] rows = new long[COUNT][MOST_NUMBERS];
        final int[] sorts = new int[COUNT];
        final int[] sizes = new int[COUNT];

        Trays() {
            Arrays.fill(sizes, NONE);
        }

        static boolean isTray(int tray) {
            return within(tray, 0, COUNT - 1);
        }

        boolean isMissing(int tray) {
            return sizes[tray] == NONE;
        }

        void lay(int tray, int sort, int many) {
            Arrays.fill(rows[tray], 0);
            sorts[tray] = sort;
            sizes[tray] = many;
        }

        void put(int tray, int place, long v) {
            rows[tray][place] = cut(v, sorts[tray]);
        }

        private static long cut(long v, int sort) {
            switch (sort) {
                case 0: return (byte) v;
                case 1: return (short) v;
                case 2: return (int) v;
                default: return v;
            }
        }

        boolean hasFrom(int tray, int place, int many) {
            // many first: the sum of two great numbers could wrap around.
            return many <= sizes[tray] && place <= sizes[tray] - many;
        }

        int troubleAt(int tray, int place) {
            if (!isTray(tray)) {
                return WRONG;
            }
            if (isMissing(tray)) {
                return MISSING;
            }
            return within(place, 0, sizes[tray] - 1) ? FINE : NO_PLACE;
        }

        int troubleFirst(int tray, int many) {
            return troubleAt(tray, many - 1);
        }
    }

    /** What a WORLD tells that no DAY changes: NATIONS, GOODS, PORTS, their NAMES, and the RULE. */
    private static final class Chart {
        final int[] count = new int[KINDS];
        final long[][] names = new long[KINDS][MOST_GOODS];
        final int[] wage = new int[MOST_NATIONS];
        final int[] duty = new int[MOST_NATIONS];
        final int[] deedSet = new int[MOST_NATIONS];
        final int[] foes = new int[MOST_NATIONS];
        final int[] origin = new int[MOST_GOODS];
        final int[] worth = new int[MOST_GOODS];
        final int[] leak = new int[MOST_GOODS];
        final int[] owner = new int[MOST_PORTS];
        /* 0 stands for "not traded" and for "no WAY". */
        final int[][] prices = new int[MOST_PORTS][MOST_GOODS];
        final int[][] days = new int[MOST_PORTS][MOST_PORTS];
        int law = 0;
        /* Rows for reckoning, made once. */
        final int[] scale = new int[MOST_NATIONS];
        final int[] far = new int[MOST_PORTS];

        void clear() {
            Arrays.fill(count, 0);
            Arrays.fill(foes, 0);
            for (int p = 0; p < MOST_PORTS; p++) {
                Arrays.fill(prices[p], 0);
                Arrays.fill(days[p], 0);
            }
            law = 0;
        }

        void copyFrom(Chart c) {
            System.arraycopy(c.count, 0, count, 0, KINDS);
            for (int k = 0; k < KINDS; k++) {
                System.arraycopy(c.names[k], 0, names[k], 0, MOST_GOODS);
            }
            System.arraycopy(c.wage, 0, wage, 0, MOST_NATIONS);
            System.arraycopy(c.duty, 0, duty, 0, MOST_NATIONS);
            System.arraycopy(c.deedSet, 0, deedSet, 0, MOST_NATIONS);
            System.arraycopy(c.foes, 0, foes, 0, MOST_NATIONS);
            System.arraycopy(c.origin, 0, origin, 0, MOST_GOODS);
            System.arraycopy(c.worth, 0, worth, 0, MOST_GOODS);
            System.arraycopy(c.leak, 0, leak, 0, MOST_GOODS);
            System.arraycopy(c.owner, 0, owner, 0, MOST_PORTS);
            for (int p = 0; p < MOST_PORTS; p++) {
                System.arraycopy(c.prices[p], 0, prices[p], 0, MOST_GOODS);
                System.arraycopy(c.days[p], 0, days[p], 0, MOST_PORTS);
            }
            law = c.law;
        }

        int find(int kind, long name) {
            for (int i = 0; i < count[kind]; i++) {
                if (names[kind][i] == name) {
                    return i;
                }
            }
            return NONE;
        }

        boolean isTaken(long name) {
            for (int k = 0; k < KINDS; k++) {
                if (find(k, name) != NONE) {
                    return true;
                }
            }
            return false;
        }

        static int mostOf(int kind) {
            switch (kind) {
                case NATION: return MOST_NATIONS;
                case GOOD: return MOST_GOODS;
                case PORT: return MOST_PORTS;
                default: return MOST_SHIPS;
            }
        }

        boolean isFull(int kind) {
            return count[kind] >= mostOf(kind);
        }

        /** The number of the thing that bears this NAME from now on; the caller has asked isFull. */
        int enter(int kind, long name) {
            int i = count[kind];
            names[kind][i] = name;
            count[kind] = i + 1;
            return i;
        }

        boolean atWar(int a, int b) {
            return (foes[a] >> b & 1) != 0;
        }

        void setWar(int a, int b, boolean is) {
            foes[a] = is ? foes[a] | 1 << b : foes[a] & ~(1 << b);
            foes[b] = is ? foes[b] | 1 << a : foes[b] & ~(1 << a);
        }

        /** WEIGHTS of all NATIONS in a load come to scale. */
        void weigh(int[] tons, int rule) {
            for (int n = 0; n < count[NATION]; n++) {
                scale[n] = 0;
            }
            for (int g = 0; g < count[GOOD]; g++) {
                if (tons[g] > 0) {
                    scale[origin[g]] += rule == 0 ? tons[g] : rule == 1 ? 1 : tons[g] * worth[g];
                }
            }
        }

        int heft(int[] tons, int nation, int rule) {
            weigh(tons, rule);
            return scale[nation];
        }

        int captainSet(int[] tons, int rule) {
            weigh(tons, rule);
            int most = 1;
            int set = 0;
            for (int n = 0; n < count[NATION]; n++) {
                if (scale[n] > most) {
                    most = scale[n];
                    set = 0;
                }
                if (scale[n] == most) {
                    set |= 1 << n;
                }
            }
            return set;
        }

        int ruler(int[] tons, int rule) {
            weigh(tons, rule);
            int most = 0;
            int who = NONE;
            for (int n = 0; n < count[NATION]; n++) {
                if (scale[n] > most) {
                    most = scale[n];
                    who = n;
                } else if (scale[n] == most) {
                    who = NONE;
                }
            }
            return who;
        }

        /** The fewest DAYS from a PORT to each come to far; NONE where no WAYS lead. */
        void measureFrom(int port) {
            Arrays.fill(far, NONE);
            far[port] = 0;
            for (int round = 0; round < count[PORT]; round++) {
                for (int p = 0; p < count[PORT]; p++) {
                    if (far[p] != NONE) {
                        shortenFrom(p);
                    }
                }
            }
        }

        private void shortenFrom(int p) {
            for (int q = 0; q < count[PORT]; q++) {
                int by = far[p] + days[p][q];
                if (days[p][q] > 0 && (far[q] == NONE || by < far[q])) {
                    far[q] = by;
                }
            }
        }

        int firstTowards(int a, int b) {
            // WAYS go both ways, so that the DAYS from b are the DAYS to b.
            measureFrom(b);
            for (int p = 0; p < count[PORT]; p++) {
                if (days[a][p] > 0 && far[p] != NONE && days[a][p] + far[p] == far[a]) {
                    return p;
                }
            }
            return NONE;
        }
    }

    /** One SHIP: it lies in a PORT (goal NONE, toGo 0) or is at SEA (port NONE, toGo above 0). */
    private static final class Vessel {
        int port = NONE;
        int goal = NONE;
        int toGo = 0;
        int hold = 0;
        int coins = 0;
        int unpaid = 0;
        int duties = 0;
        final int[] tons = new int[MOST_GOODS];

        void launch(int atPort, int room, int purse) {
            port = atPort;
            goal = NONE;
            toGo = 0;
            hold = room;
            coins = purse;
            unpaid = 0;
            duties = 0;
            Arrays.fill(tons, 0);
        }

        void copyFrom(Vessel v) {
            port = v.port;
            goal = v.goal;
            toGo = v.toGo;
            hold = v.hold;
            coins = v.coins;
            unpaid = v.unpaid;
            duties = v.duties;
            System.arraycopy(v.tons, 0, tons, 0, MOST_GOODS);
        }

        int load() {
            int sum = 0;
            for (int g = 0; g < MOST_GOODS; g++) {
                sum += tons[g];
            }
            return sum;
        }

        int room() {
            return hold - load();
        }

        boolean buys(Chart c, int good, int many) {
            if (port == NONE) {
                return false;
            }
            int cost = c.prices[port][good] * many;
            if (cost == 0 || cost > coins || many > room()) {
                return false;
            }
            coins -= cost;
            tons[good] += many;
            return true;
        }

        boolean sells(Chart c, int good, int many) {
            if (port == NONE || c.prices[port][good] == 0 || many > tons[good]) {
                return false;
            }
            coins = Math.min(MOST_COINS, coins + c.prices[port][good] * many);
            tons[good] -= many;
            return true;
        }

        void sellsAll(Chart c) {
            for (int g = 0; g < c.count[GOOD]; g++) {
                if (tons[g] > 0) {
                    sells(c, g, tons[g]);
                }
            }
        }

        /** As much of a GOOD as COINS and room allow; false if that is nothing. */
        boolean buysMost(Chart c, int good) {
            if (port == NONE || c.prices[port][good] == 0) {
                return false;
            }
            int each = c.prices[port][good];
            int many = Math.min(coins / each, room());
            coins -= each * many;
            tons[good] += many;
            return many > 0;
        }

        boolean dumps(int good, int many) {
            if (many > tons[good]) {
                return false;
            }
            tons[good] -= many;
            return true;
        }

        boolean sails(Chart c, int to) {
            // No PORT has a WAY to itself, so that this refuses the PORT where it lies, too.
            if (port == NONE || c.days[port][to] == 0) {
                return false;
            }
            toGo = c.days[port][to];
            goal = to;
            port = NONE;
            return true;
        }

        /** DAYS at SEA, so many or as many as there are to go: true if it lies in a PORT then. */
        boolean sailsOn(Chart c, int days) {
            int ruler = c.ruler(tons, c.law);
            int some = Math.min(days, toGo);
            for (int d = 0; d < some; d++) {
                paysWage(c, ruler);
                if (leaks(c)) {
                    ruler = c.ruler(tons, c.law);
                }
            }
            toGo -= some;
            if (toGo > 0) {
                return false;
            }
            port = goal;
            goal = NONE;
            paysDuty(c, ruler);
            return true;
        }

        private void paysWage(Chart c, int ruler) {
            if (ruler == NONE) {
                return;
            }
            if (coins < c.wage[ruler]) {
                unpaid++;
            } else {
                coins -= c.wage[ruler];
            }
        }

        /** A DAY's LEAKS: true if any ton is lost. */
        boolean leaks(Chart c) {
            boolean lost = false;
            for (int g = 0; g < c.count[GOOD]; g++) {
                if (tons[g] > 0 && c.leak[g] > 0) {
                    tons[g] = Math.max(0, tons[g] - c.leak[g]);
                    lost = true;
                }
            }
            return lost;
        }

        private void paysDuty(Chart c, int ruler) {
            int owner = c.owner[port];
            if (owner == NONE || owner == ruler) {
                return;
            }
            int due = Math.min(coins, c.duty[owner] * load());
            coins -= due;
            duties += due;
        }
    }

    /** The VOYAGES, a row of STEPS and of the ends of when and loop. */
    private static final class Plan {
        static final int ROOM = 2 * MOST_STEPS;

        /* Those from WHEN_RULED on do nothing but tell what comes behind them. */
        static final int DAY = 0;
        static final int BUY = 1;
        static final int SELL = 2;
        static final int DUMP = 3;
        static final int SAIL = 4;
        static final int ANY = 5;
        static final int WHEN_RULED = 6;
        static final int WHEN_IN = 7;
        static final int WHEN_BELOW = 8;
        static final int WHEN_ABOVE = 9;
        static final int WHEN_SAME = 10;
        static final int LOOP = 11;
        static final int STOP = 12;
        static final int END = 13;

        final int[] act = new int[ROOM];
        final int[] ship = new int[ROOM];
        final int[] thing = new int[ROOM];
        final int[] number = new int[ROOM];
        /* Of a when, loop: its end. Of an end: its when, loop. */
        final int[] link = new int[ROOM];
        int size = 0;
        int steps = 0;
        boolean there = false;

        void clear() {
            size = 0;
            steps = 0;
            there = false;
        }

        void copyFrom(Plan p) {
            System.arraycopy(p.act, 0, act, 0, ROOM);
            System.arraycopy(p.ship, 0, ship, 0, ROOM);
            System.arraycopy(p.thing, 0, thing, 0, ROOM);
            System.arraycopy(p.number, 0, number, 0, ROOM);
            System.arraycopy(p.link, 0, link, 0, ROOM);
            size = p.size;
            steps = p.steps;
            there = p.there;
        }

        /** The place of a STEP more; the caller has seen that there are fewer than MOST_STEPS. */
        int addStep(int what, int who, int whom, int many) {
            int at = size;
            act[at] = what;
            ship[at] = who;
            thing[at] = whom;
            number[at] = many;
            link[at] = at;
            size++;
            steps++;
            return at;
        }

        /** The end of the when, loop at a place; there are never more of these than STEPS. */
        void addEnd(int of) {
            act[size] = END;
            link[size] = of;
            link[of] = size;
            size++;
        }
    }

    /** The WORLD with all that became of it, and the VOYAGES: what a MARK keeps. */
    private static final class State {
        final Chart chart = new Chart();
        final Vessel[] fleet = new Vessel[MOST_SHIPS];
        final Plan plan = new Plan();
        int date = 0;

        State() {
            for (int s = 0; s < MOST_SHIPS; s++) {
                fleet[s] = new Vessel();
            }
        }

        void clear() {
            chart.clear();
            plan.clear();
            date = 0;
        }

        void copyFrom(State s) {
            chart.copyFrom(s.chart);
            plan.copyFrom(s.plan);
            copyFleet(s);
        }

        /** Only what DAYS, and STEPS on them, change. */
        void copyFleet(State s) {
            for (int i = 0; i < s.chart.count[SHIP]; i++) {
                fleet[i].copyFrom(s.fleet[i]);
            }
            date = s.date;
        }

        /** A DAY goes by: the set of SHIPS that lie in a PORT anew. */
        int passDay() {
            int landed = 0;
            for (int s = 0; s < chart.count[SHIP]; s++) {
                if (fleet[s].port != NONE) {
                    fleet[s].leaks(chart);
                } else if (fleet[s].sailsOn(chart, 1)) {
                    landed |= 1 << s;
                }
            }
            date++;
            return landed;
        }

        int atSea() {
            int set = 0;
            for (int s = 0; s < chart.count[SHIP]; s++) {
                if (fleet[s].port == NONE) {
                    set |= 1 << s;
                }
            }
            return set;
        }

        int lawless() {
            int set = 0;
            for (int s = 0; s < chart.count[SHIP]; s++) {
                if (chart.ruler(fleet[s].tons, chart.law) == NONE) {
                    set |= 1 << s;
                }
            }
            return set;
        }

        int allTons() {
            int sum = 0;
            for (int s = 0; s < chart.count[SHIP]; s++) {
                sum += fleet[s].load();
            }
            return sum;
        }

        int allCoins() {
            int sum = 0;
            for (int s = 0; s < chart.count[SHIP]; s++) {
                sum += fleet[s].coins;
            }
            return sum;
        }
    }

    /** The bytes that were fed, read TOKEN by TOKEN; the first FAULT along them is kept. */
    private static final class Tape {
        static final int FED_BYTES = 20;
        static final int MOST_LETTERS = 8;
        static final int MOST_DIGITS = 4;
        /* A word of at most MOST_LETTERS is one long, a letter being a digit 1 to 26 of it. */
        static final int LETTERS = 32;

        static final int END = 0;
        static final int WORD = 1;
        static final int NUMBER = 2;
        static final int SIGN = 3;
        static final int BAD = 4;

        final byte[] bytes = new byte[WORLD_BYTES];
        final long[] words = new long[WORD_COUNT];
        int length = 0;
        int end = 0;
        int at = 0;
        int fault = 0;
        int place = NONE;
        /* The TOKEN that stands next: its kind, where it begins, and what it says. */
        int kind = END;
        int start = 0;
        int number = 0;
        int sign = 0;
        long letters = 0;
        int word = NONE;

        Tape() {
            int w = 0;
            long code = 0;
            for (int i = 0; i < WORDS.length(); i++) {
                char c = WORDS.charAt(i);
                if (c != ' ') {
                    code = code * LETTERS + (c - 'a' + 1);
                    words[w] = code;
                } else if (w < WORD_COUNT - 1) {
                    w++;
                    code = 0;
                }
            }
        }

        /** Four bytes more, the highest first; the caller has seen that there is room. */
        void append(int four) {
            for (int shift = 24; shift >= 0 && length < WORLD_BYTES; shift -= 8) {
                bytes[length] = (byte) (four >> shift);
                length++;
            }
        }

        void begin(int n) {
            end = n;
            at = 0;
            fault = 0;
            place = NONE;
            advance();
        }

        void advance() {
            while (at < end && (bytes[at] == 10 || bytes[at] == 32)) {
                at++;
            }
            start = at;
            word = NONE;
            letters = 0;
            if (at >= end) {
                kind = END;
            } else if (bytes[at] >= 'a' && bytes[at] <= 'z') {
                scanWord();
            } else if (bytes[at] >= '0' && bytes[at] <= '9') {
                scanNumber();
            } else {
                scanSign();
            }
        }

        private void scanWord() {
            kind = WORD;
            while (at < end && bytes[at] >= 'a' && bytes[at] <= 'z') {
                if (at - start < MOST_LETTERS) {
                    letters = letters * LETTERS + (bytes[at] - 'a' + 1);
                }
                at++;
            }
            if (at - start > MOST_LETTERS) {
                // It is no NAME and none of WORDS: what it says is not needed.
                letters = 0;
                return;
            }
            for (int w = 0; w < WORD_COUNT; w++) {
                if (words[w] == letters) {
                    word = w;
                }
            }
        }

        private void scanNumber() {
            kind = NUMBER;
            number = 0;
            while (at < end && bytes[at] >= '0' && bytes[at] <= '9') {
                if (at - start < MOST_DIGITS) {
                    number = number * 10 + (bytes[at] - '0');
                }
                at++;
            }
            if (at - start > MOST_DIGITS) {
                kind = BAD;
            }
        }

        private void scanSign() {
            sign = bytes[at];
            kind = sign == ';' || sign == '<' || sign == '>' || sign == '=' ? SIGN : BAD;
            at++;
        }

        boolean fails(int why) {
            fault = why;
            place = start;
            return false;
        }

        /** The TOKEN can't stand here. */
        boolean misfits() {
            return fails(kind == BAD ? NO_TOKEN : OUT_OF_PLACE);
        }

        boolean takesWord(int w) {
            if (word != w) {
                return misfits();
            }
            advance();
            return true;
        }

        boolean isSign(int c) {
            return kind == SIGN && sign == c;
        }

        boolean takesStop() {
            if (!isSign(';')) {
                return misfits();
            }
            advance();
            return true;
        }

        private boolean isName() {
            return kind == WORD && letters != 0 && word == NONE;
        }

        /** The NUMBER that stands here, or NONE with a FAULT. */
        int takeNumber(int least, int most) {
            if (kind != NUMBER) {
                misfits();
                return NONE;
            }
            if (!within(number, least, most)) {
                fails(BAD_VALUE);
                return NONE;
            }
            int taken = number;
            advance();
            return taken;
        }

        /** The NUMBER behind a WORD, if that WORD stands here, else what is so without it; NONE with a FAULT. */
        int takeOption(int w, int least, int most, int without) {
            if (word != w) {
                return without;
            }
            advance();
            return takeNumber(least, most);
        }

        /** The number of the thing whose NAME stands here, another one than this; NONE with a FAULT. */
        int takeThing(Chart c, int thingKind, int than) {
            if (!isName()) {
                misfits();
                return NONE;
            }
            int found = c.find(thingKind, letters);
            if (found == NONE) {
                fails(BAD_NAME);
                return NONE;
            }
            if (found == than) {
                fails(TWICE);
                return NONE;
            }
            advance();
            return found;
        }

        /** The number of a thing more, whose WORD stands here with its new NAME behind it; NONE with a FAULT. */
        int takeNew(Chart c, int thingKind) {
            if (c.isFull(thingKind)) {
                fails(ONE_MORE);
                return NONE;
            }
            advance();
            if (!isName()) {
                misfits();
                return NONE;
            }
            if (c.isTaken(letters)) {
                fails(BAD_NAME);
                return NONE;
            }
            int made = c.enter(thingKind, letters);
            advance();
            return made;
        }
    }

    /** Takes a WORLD from a tape into a draft. */
    private static final class WorldText {
        private boolean ruleTold = false;

        boolean takes(Tape t, State s) {
            s.clear();
            ruleTold = false;
            // Each PART has a byte at least.
            for (int parts = 0; parts <= WORLD_BYTES; parts++) {
                if (t.kind == Tape.END) {
                    return true;
                }
                if (!takesPart(t, s)) {
                    return false;
                }
            }
            return false;
        }

        private boolean takesPart(Tape t, State s) {
            switch (t.word) {
                case W_NATION: return takesNation(t, s.chart);
                case W_WAR: return takesWar(t, s.chart);
                case W_GOOD: return takesGood(t, s.chart);
                case W_PORT: return takesPort(t, s.chart);
                case W_PRICE: return takesPrice(t, s.chart);
                case W_WAY: return takesWay(t, s.chart);
                case W_SHIP: return takesShip(t, s);
                case W_ABOARD: return takesAboard(t, s);
                case W_RULE: return takesRule(t, s.chart);
                default: return t.misfits();
            }
        }

        private static boolean takesNation(Tape t, Chart c) {
            int nation = t.takeNew(c, NATION);
            if (nation == NONE) {
                return false;
            }
            c.wage[nation] = t.takeOption(W_WAGE, 0, 20, 1);
            if (c.wage[nation] == NONE) {
                return false;
            }
            c.duty[nation] = t.takeOption(W_DUTY, 0, 9, 0);
            if (c.duty[nation] == NONE) {
                return false;
            }
            c.deedSet[nation] = t.takeOption(W_DEEDS, 0, ALL_DEEDS, 0);
            return c.deedSet[nation] != NONE && t.takesStop();
        }

        private static boolean takesWar(Tape t, Chart c) {
            t.advance();
            int a = t.takeThing(c, NATION, NONE);
            if (a == NONE) {
                return false;
            }
            int b = t.takeThing(c, NATION, a);
            if (b == NONE) {
                return false;
            }
            c.setWar(a, b, true);
            return t.takesStop();
        }

        private static boolean takesGood(Tape t, Chart c) {
            int good = t.takeNew(c, GOOD);
            if (good == NONE || !t.takesWord(W_OF)) {
                return false;
            }
            c.origin[good] = t.takeThing(c, NATION, NONE);
            if (c.origin[good] == NONE || !t.takesWord(W_WORTH)) {
                return false;
            }
            c.worth[good] = t.takeNumber(1, 99);
            if (c.worth[good] == NONE) {
                return false;
            }
            c.leak[good] = t.takeOption(W_LEAKS, 0, 9, 0);
            return c.leak[good] != NONE && t.takesStop();
        }

        private static boolean takesPort(Tape t, Chart c) {
            int port = t.takeNew(c, PORT);
            if (port == NONE) {
                return false;
            }
            c.owner[port] = NONE;
            if (t.word == W_OF) {
                t.advance();
                c.owner[port] = t.takeThing(c, NATION, NONE);
                if (c.owner[port] == NONE) {
                    return false;
                }
            }
            return t.takesStop();
        }

        private static boolean takesPrice(Tape t, Chart c) {
            t.advance();
            int port = t.takeThing(c, PORT, NONE);
            if (port == NONE) {
                return false;
            }
            int good = t.takeThing(c, GOOD, NONE);
            if (good == NONE) {
                return false;
            }
            int price = t.takeNumber(1, MOST_PRICE);
            if (price == NONE) {
                return false;
            }
            c.prices[port][good] = price;
            return t.takesStop();
        }

        private static boolean takesWay(Tape t, Chart c) {
            t.advance();
            int a = t.takeThing(c, PORT, NONE);
            if (a == NONE) {
                return false;
            }
            int b = t.takeThing(c, PORT, a);
            if (b == NONE || !t.takesWord(W_DAYS)) {
                return false;
            }
            int days = t.takeNumber(1, MOST_WAY);
            if (days == NONE) {
                return false;
            }
            c.days[a][b] = days;
            c.days[b][a] = days;
            return t.takesStop();
        }

        private static boolean takesShip(Tape t, State s) {
            int ship = t.takeNew(s.chart, SHIP);
            if (ship == NONE || !t.takesWord(W_AT)) {
                return false;
            }
            int port = t.takeThing(s.chart, PORT, NONE);
            if (port == NONE || !t.takesWord(W_HOLD)) {
                return false;
            }
            int hold = t.takeNumber(1, MOST_TONS);
            if (hold == NONE) {
                return false;
            }
            int coins = t.takeOption(W_COINS, 0, MOST_COINS, 100);
            if (coins == NONE) {
                return false;
            }
            s.fleet[ship].launch(port, hold, coins);
            return t.takesStop();
        }

        private static boolean takesAboard(Tape t, State s) {
            t.advance();
            int ship = t.takeThing(s.chart, SHIP, NONE);
            if (ship == NONE) {
                return false;
            }
            int good = t.takeThing(s.chart, GOOD, NONE);
            if (good == NONE) {
                return false;
            }
            int tons = t.takeNumber(1, s.fleet[ship].room());
            if (tons == NONE) {
                return false;
            }
            s.fleet[ship].tons[good] += tons;
            return t.takesStop();
        }

        private boolean takesRule(Tape t, Chart c) {
            if (ruleTold) {
                return t.fails(TWICE);
            }
            t.advance();
            int law = t.takeNumber(0, LAST_RULE);
            if (law == NONE) {
                return false;
            }
            c.law = law;
            ruleTold = true;
            return t.takesStop();
        }
    }

    /** Takes VOYAGES from a tape into a draft, by the NAMES of a WORLD. */
    private static final class VoyageText {
        private final int[] open = new int[MOST_NESTED];
        private int depth = 0;

        boolean takes(Tape t, Chart c, Plan p) {
            p.clear();
            depth = 0;
            // Each STEP, each end has a byte at least.
            for (int parts = 0; parts <= VOYAGE_BYTES; parts++) {
                if (t.kind == Tape.END) {
                    p.there = depth == 0;
                    return p.there || t.misfits();
                }
                int word = t.word;
                boolean taken = word == W_END ? takesEnd(t, p) : mayBegin(t, p) && takesStep(t, c, p, word);
                if (!taken || !t.takesStop()) {
                    return false;
                }
                if (isBlock(word)) {
                    open[depth] = p.size - 1;
                    depth++;
                }
            }
            return false;
        }

        private boolean takesEnd(Tape t, Plan p) {
            if (depth == 0) {
                return t.misfits();
            }
            t.advance();
            depth--;
            p.addEnd(open[depth]);
            return true;
        }

        private static boolean isBlock(int word) {
            return word == W_WHEN || word == W_LOOP;
        }

        private boolean mayBegin(Tape t, Plan p) {
            if (!within(t.word, W_DAY, W_WHEN) && t.word != W_LOOP && t.word != W_STOP) {
                return t.misfits();
            }
            if (p.steps >= MOST_STEPS) {
                return t.fails(ONE_MORE);
            }
            return !isBlock(t.word) || depth < MOST_NESTED || t.fails(TOO_DEEP);
        }

        /** A STEP but for its sign at the end. */
        private static boolean takesStep(Tape t, Chart c, Plan p, int word) {
            t.advance();
            switch (word) {
                case W_DAY: return takesCount(t, p, Plan.DAY, MOST_STEP_DAYS);
                case W_BUY: return takesLading(t, c, p, Plan.BUY);
                case W_SELL: return takesLading(t, c, p, Plan.SELL);
                case W_DUMP: return takesLading(t, c, p, Plan.DUMP);
                case W_SAIL: return takesPair(t, c, p, Plan.SAIL, PORT);
                case W_ANY: return takesAny(t, c, p);
                case W_WHEN: return takesTest(t, c, p);
                case W_LOOP: return takesCount(t, p, Plan.LOOP, MOST_LOOPS);
                default: return takesNothing(p);
            }
        }

        private static boolean takesNothing(Plan p) {
            p.addStep(Plan.STOP, 0, 0, 0);
            return true;
        }

        private static boolean takesCount(Tape t, Plan p, int act, int most) {
            int many = t.takeNumber(1, most);
            if (many == NONE) {
                return false;
            }
            p.addStep(act, 0, 0, many);
            return true;
        }

        private static boolean takesLading(Tape t, Chart c, Plan p, int act) {
            int ship = t.takeThing(c, SHIP, NONE);
            if (ship == NONE) {
                return false;
            }
            int good = t.takeThing(c, GOOD, NONE);
            if (good == NONE) {
                return false;
            }
            int tons = t.takeNumber(1, MOST_TONS);
            if (tons == NONE) {
                return false;
            }
            p.addStep(act, ship, good, tons);
            return true;
        }

        private static boolean takesPair(Tape t, Chart c, Plan p, int act, int kind) {
            int ship = t.takeThing(c, SHIP, NONE);
            if (ship == NONE) {
                return false;
            }
            int thing = t.takeThing(c, kind, NONE);
            if (thing == NONE) {
                return false;
            }
            p.addStep(act, ship, thing, 0);
            return true;
        }

        private static boolean takesAny(Tape t, Chart c, Plan p) {
            int ship = t.takeThing(c, SHIP, NONE);
            if (ship == NONE) {
                return false;
            }
            p.addStep(Plan.ANY, ship, 0, 0);
            return true;
        }

        private static boolean takesTest(Tape t, Chart c, Plan p) {
            int word = t.word;
            if (word != W_RULED && word != W_IN && word != W_COINS) {
                return t.misfits();
            }
            t.advance();
            if (word == W_RULED) {
                return takesPair(t, c, p, Plan.WHEN_RULED, NATION);
            }
            return word == W_IN ? takesPair(t, c, p, Plan.WHEN_IN, PORT) : takesCoins(t, c, p);
        }

        private static boolean takesCoins(Tape t, Chart c, Plan p) {
            int ship = t.takeThing(c, SHIP, NONE);
            if (ship == NONE) {
                return false;
            }
            int act = Plan.WHEN_SAME;
            if (t.isSign('<')) {
                act = Plan.WHEN_BELOW;
            } else if (t.isSign('>')) {
                act = Plan.WHEN_ABOVE;
            } else if (!t.isSign('=')) {
                return t.misfits();
            }
            t.advance();
            int coins = t.takeNumber(0, MOST_COINS);
            if (coins == NONE) {
                return false;
            }
            p.addStep(act, ship, 0, coins);
            return true;
        }
    }

    /** Does the VOYAGES of a state, by a seed. */
    private static final class Life {
        static final int TALLIES = 5;
        static final int MISSED = 0;
        static final int DAYS = 1;
        static final int BOUGHT = 2;
        static final int LANDINGS = 3;
        static final int LEFT = 4;
        /* Far above the ends that can be come to among MOST_LIVED_STEPS STEPS. */
        static final int ENOUGH = 1000000;

        final int[] tally = new int[TALLIES];
        private final int[] rounds = new int[Plan.ROOM];
        private int draws = 0;
        private int at = 0;

        /** How many STEPS were done; the rest is in tally. */
        int runs(State s, int seed) {
            Arrays.fill(tally, 0);
            draws = seed;
            at = 0;
            int done = 0;
            for (int i = 0; i < ENOUGH && at < s.plan.size; i++) {
                int act = s.plan.act[at];
                if (act == Plan.END) {
                    passEnd(s.plan);
                    continue;
                }
                if (done == MOST_LIVED_STEPS) {
                    tally[LEFT] = 1;
                    break;
                }
                done++;
                if (act >= Plan.WHEN_RULED) {
                    turn(s, act);
                } else {
                    tally[MISSED] += does(s, act) ? 0 : 1;
                    at++;
                }
            }
            return done;
        }

        private void passEnd(Plan p) {
            int of = p.link[at];
            if (p.act[of] == Plan.LOOP && rounds[of] > 1) {
                rounds[of]--;
                at = of + 1;
            } else {
                at++;
            }
        }

        /** A when, loop, stop: they only tell what comes behind them. */
        private void turn(State s, int act) {
            if (act == Plan.LOOP) {
                rounds[at] = s.plan.number[at];
                at++;
            } else if (act == Plan.STOP) {
                at = s.plan.size;
            } else {
                at = holds(s, act) ? at + 1 : s.plan.link[at] + 1;
            }
        }

        private boolean holds(State s, int act) {
            Vessel v = s.fleet[s.plan.ship[at]];
            int thing = s.plan.thing[at];
            int number = s.plan.number[at];
            switch (act) {
                case Plan.WHEN_RULED: return s.chart.ruler(v.tons, s.chart.law) == thing;
                case Plan.WHEN_IN: return v.port == thing;
                case Plan.WHEN_BELOW: return v.coins < number;
                case Plan.WHEN_ABOVE: return v.coins > number;
                default: return v.coins == number;
            }
        }

        private boolean does(State s, int act) {
            Vessel v = s.fleet[s.plan.ship[at]];
            int thing = s.plan.thing[at];
            int number = s.plan.number[at];
            switch (act) {
                case Plan.DAY: return passesDays(s, number);
                case Plan.BUY: return buysTons(s.chart, v, thing, number);
                case Plan.SELL: return v.sells(s.chart, thing, number);
                case Plan.DUMP: return v.dumps(thing, number);
                case Plan.SAIL: return v.sails(s.chart, thing);
                default: return v.sails(s.chart, draw(s.chart.count[PORT]));
            }
        }

        private boolean buysTons(Chart c, Vessel v, int good, int tons) {
            if (!v.buys(c, good, tons)) {
                return false;
            }
            tally[BOUGHT] += tons;
            return true;
        }

        private boolean passesDays(State s, int many) {
            if (s.date + many > LAST_DAY) {
                return false;
            }
            for (int d = 0; d < many; d++) {
                tally[LANDINGS] += Integer.bitCount(s.passDay());
            }
            tally[DAYS] += many;
            return true;
        }

        private int draw(int n) {
            draws = (draws * 3023 + 11251) % 65536;
            return n > 0 ? draws / 8 % n : 0;
        }
    }

    /** The VOYAGE that gains most. */
    private static final class Search {
        /* The SHIP at the beginning of each leg, and behind the last. */
        private final Vessel[] legStart = new Vessel[MOST_LEGS + 1];
        int bestCoins = NONE;
        int bestPort = NONE;
        int bestGood = NONE;

        Search() {
            for (int i = 0; i <= MOST_LEGS; i++) {
                legStart[i] = new Vessel();
            }
        }

        /** False if there is no WAY for a leg; the SHIP lies in a PORT. */
        boolean finds(Chart c, Vessel v, int legs) {
            legStart[0].copyFrom(v);
            bestCoins = mostCoins(c, 0, legs);
            return bestCoins != NONE;
        }

        /** The most COINS from the beginning of a leg on; NONE if there is no WAY. */
        private int mostCoins(Chart c, int leg, int legs) {
            Vessel v = legStart[leg];
            v.sellsAll(c);
            if (leg >= legs || leg >= MOST_LEGS) {
                return v.coins;
            }
            int most = NONE;
            for (int p = 0; p < c.count[PORT]; p++) {
                if (c.days[v.port][p] == 0) {
                    continue;
                }
                // Behind the last GOOD comes: nothing is bought.
                for (int g = 0; g <= c.count[GOOD]; g++) {
                    int good = g < c.count[GOOD] ? g : NONE;
                    if (!goes(c, leg, p, good)) {
                        continue;
                    }
                    int coins = mostCoins(c, leg + 1, legs);
                    if (coins > most) {
                        most = coins;
                        noteFirstLeg(leg, p, good);
                    }
                }
            }
            return most;
        }

        private void noteFirstLeg(int leg, int port, int good) {
            if (leg == 0) {
                bestPort = port;
                bestGood = good;
            }
        }

        /** The leg to a PORT with a GOOD; false if not a ton of it can be bought. */
        private boolean goes(Chart c, int leg, int port, int good) {
            Vessel v = legStart[leg + 1];
            v.copyFrom(legStart[leg]);
            if (good != NONE && !v.buysMost(c, good)) {
                return false;
            }
            return v.sails(c, port) && v.sailsOn(c, v.toGo);
        }
    }

    /** What would be: flags by LEAKS alone, loads that would turn them, logs. */
    private static final class Outlook {
        private final int[] then = new int[MOST_GOODS];
        int foundGood = NONE;
        int foundAmount = 0;
        final int[] seen = new int[LOG_DAYS];
        int ways = 0;
        int inAllWays = 0;

        private static int leaked(Chart c, int good, int tons, int days) {
            return Math.max(0, tons - days * c.leak[good]);
        }

        private void leakFor(Chart c, Vessel v, int days) {
            for (int g = 0; g < c.count[GOOD]; g++) {
                then[g] = leaked(c, g, v.tons[g], days);
            }
        }

        int flagAfter(Chart c, Vessel v, int days) {
            leakFor(c, v, days);
            return c.ruler(then, c.law);
        }

        int tonsAfter(Chart c, Vessel v, int days) {
            int sum = 0;
            for (int g = 0; g < c.count[GOOD]; g++) {
                sum += leaked(c, g, v.tons[g], days);
            }
            return sum;
        }

        int daysToTurn(Chart c, Vessel v) {
            int today = c.captainSet(v.tons, c.law);
            for (int d = 1; d <= FAR_DAYS; d++) {
                leakFor(c, v, d);
                if (c.captainSet(then, c.law) != today) {
                    return d;
                }
            }
            return NONE;
        }

        int flagsBegun(Chart c, Vessel v, int days) {
            int begun = 0;
            int before = NONE;
            for (int d = 0; d <= days; d++) {
                int flag = flagAfter(c, v, d);
                if (flag != NONE && flag != before) {
                    begun++;
                }
                before = flag;
            }
            return begun;
        }

        int wagesDue(Chart c, Vessel v, int days) {
            int sum = 0;
            for (int d = 0; d < days; d++) {
                int flag = flagAfter(c, v, d);
                if (flag != NONE) {
                    sum += c.wage[flag];
                }
            }
            return sum;
        }

        /** The load with so many tons of a GOOD more, or fewer, comes to then. */
        private void change(Vessel v, int good, int by) {
            System.arraycopy(v.tons, 0, then, 0, MOST_GOODS);
            then[good] = Math.max(0, then[good] + by);
        }

        private boolean turnsBy(Chart c, Vessel v, int good, int by, int today) {
            change(v, good, by);
            return c.captainSet(then, c.law) != today;
        }

        private boolean found(int good, int amount) {
            foundGood = good;
            foundAmount = amount;
            return true;
        }

        boolean findStowaway(Chart c, Vessel v) {
            int today = c.captainSet(v.tons, c.law);
            for (int t = 1; t <= MOST_TONS; t++) {
                for (int g = 0; g < c.count[GOOD]; g++) {
                    if (turnsBy(c, v, g, t, today)) {
                        return found(g, t);
                    }
                }
            }
            return false;
        }

        boolean isGuarded(Chart c, Vessel v, int tons) {
            int today = c.captainSet(v.tons, c.law);
            for (int g = 0; g < c.count[GOOD]; g++) {
                if (turnsBy(c, v, g, tons, today) || turnsBy(c, v, g, -tons, today)) {
                    return false;
                }
            }
            return true;
        }

        boolean findPass(Chart c, Vessel v, int nation) {
            if (c.ruler(v.tons, c.law) == nation) {
                return found(NONE, 0);
            }
            int room = v.room();
            for (int t = 1; t <= room; t++) {
                for (int g = 0; g < c.count[GOOD]; g++) {
                    change(v, g, t);
                    if (c.ruler(then, c.law) == nation) {
                        return found(g, t);
                    }
                }
            }
            return false;
        }

        /** The SHIP lies in a PORT. */
        boolean findPeace(Chart c, Vessel v) {
            int room = v.room();
            boolean any = false;
            for (int g = 0; g < c.count[GOOD]; g++) {
                int price = c.prices[v.port][g];
                if (price == 0 || (any && price * room >= foundAmount)) {
                    continue;
                }
                change(v, g, room);
                int flag = c.ruler(then, c.law);
                if (flag == NONE || c.foes[flag] == 0) {
                    any = found(g, price * room);
                }
            }
            return any;
        }

        /** By the first n flags in seen: how many ways, and the GOODS that are in all of them. */
        void countWays(Chart c, int n, int h) {
            ways = 0;
            inAllWays = (1 << c.count[GOOD]) - 1;
            for (int a = 0; a < c.count[GOOD]; a++) {
                for (int b = a + 1; b < c.count[GOOD]; b++) {
                    int before = ways;
                    countLoads(c, a, b, n, h);
                    if (ways > before) {
                        inAllWays &= 1 << a | 1 << b;
                    }
                }
            }
        }

        private void countLoads(Chart c, int a, int b, int n, int h) {
            for (int x = 1; x < h; x++) {
                for (int y = 1; x + y <= h; y++) {
                    if (fits(c, a, x, b, y, n)) {
                        ways++;
                    }
                }
            }
        }

        /** Whether x tons of one GOOD and y of another one, leaking, show the first n flags in seen. */
        private boolean fits(Chart c, int a, int x, int b, int y, int n) {
            int tonsA = x;
            int tonsB = y;
            for (int d = 0; d < n; d++) {
                if (flagOfTwo(c, a, tonsA, b, tonsB) != seen[d]) {
                    return false;
                }
                tonsA = Math.max(0, tonsA - c.leak[a]);
                tonsB = Math.max(0, tonsB - c.leak[b]);
            }
            return true;
        }

        private static int flagOfTwo(Chart c, int a, int x, int b, int y) {
            if (x == 0) {
                return y == 0 ? NONE : c.origin[b];
            }
            if (y == 0 || c.origin[a] == c.origin[b]) {
                return c.origin[a];
            }
            int more = c.law == 0 ? x - y : c.law == 1 ? 0 : x * c.worth[a] - y * c.worth[b];
            if (more == 0) {
                return NONE;
            }
            return more > 0 ? c.origin[a] : c.origin[b];
        }
    }
}
