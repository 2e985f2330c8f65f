/** The sentences of the document on voyages as a text, lives, marks and fractions (==== 4), and promises 11 and 63 to 67. */
final class EdgesOfLives {
    /* Every STEP and every TEST, the TOKENS between single blanks; | ends a STEP's own TOKENS. */
    private static final String WHOLE = "day 1 ; | buy one rum 2 ; | sell one rum 3 ; | dump one rum 4 ; | sail one bay ; | any one ; | "
        + "when ruled one red ; | when in one bay ; | when coins one < 5 ; | end ; | end ; | end ; | loop 6 ; | end ; | "
        + "when coins one > 7 ; | end ; | when coins one = 8 ; | end ; | stop ; |";
    private static final String[] STEPS = {"day", "buy", "sell", "dump", "sail", "any", "when", "loop", "stop"};

    private EdgesOfLives() {
    }

    static void tell(Sentences d) {
        tellTexts(d);
        tellLives(d);
        tellPromises(d);
    }

    private static void tellTexts(Sentences d) {
        d.term("VOYAGES are a TEXT of at most 300 bytes, of such TOKENS (none at first).", EdgesOfLives::threeHundred);
        d.term("VOYAGES: {STEP}. STEP: day NUMBER ; or buy NAME NAME NUMBER ; or sell NAME NAME NUMBER ; or dump NAME NAME NUMBER ; or sail NAME NAME ; "
            + "or any NAME ; or when TEST ; {STEP} end ; or loop NUMBER ; {STEP} end ; or stop ; "
            + "TEST: ruled NAME NAME, or in NAME NAME, or coins NAME COMPARES NUMBER. COMPARES: < or > or =", EdgesOfLives::everyToken);
        d.term("FAULTS: 1, 2 as above (an end without a beginning; the text's end ahead of an end: 2).", EdgesOfLives::ends);
        d.term("3 a NAME that is no such one (a SHIP, then a GOOD, a PORT behind sail, in, a NATION behind ruled).", EdgesOfLives::noSuchName);
        d.term("4 a NUMBER that can't be.", EdgesOfLives::numbers);
        d.term("6 a 31st STEP (at its WORD; end is none).", EdgesOfLives::steps);
        d.term("7 a when, loop within three others (at its WORD).", EdgesOfLives::depth);
        d.term("day: so many (1 to 20);", s -> number("day ", "", 1, 20));
        d.term("buy, sell, dump: 1 to 60 tons;", EdgesOfLives::tons);
        d.term("when coins: 0 to 9,999.", EdgesOfLives::coins);
        d.term("loop n (1 to 99): as often.", EdgesOfLives::asOften);
    }

    private static void tellLives(Sentences d) {
        d.term("any: the SHIP SAILS to a PORT by a draw by how many PORTS there are.", EdgesOfLives::any);
        d.term("What can't be is MISSED: DAYS beyond 9,999 (as a whole), a buy, a sell, a dump, a sail (by any, too) that can't be.", EdgesOfLives::missed);
        d.term("At most 300 STEPS (when, loop count as one each time they are come to from ahead; end does not).", EdgesOfLives::threeHundredSteps);
        d.term("TEST: ruled NAME NAME, or in NAME NAME, or coins NAME COMPARES NUMBER. COMPARES: < or > or =", EdgesOfLives::tests);
        d.term("LIVED by a seed (0 to 9,999): all is as it is then.", EdgesOfLives::asItIsThen);
        d.term("Draws: s, at first the seed, becomes what is left of s times 3,023 and 11,251 by 65,536; the draw by n is the rest of s by 8, rounded down, by n.",
            EdgesOfLives::draws);
        d.term("MARKS, at most 3: the WORLD with all that became of it, the VOYAGES are kept as they are;", EdgesOfLives::marks);
        d.term("all is taken back to the latest MARK, which is gone then.", EdgesOfLives::takenBack);
        d.term("FRACTIONS are told by top() and bottom() without a common divisor, the bottom above 0; 0 is 0 by 1.", EdgesOfLives::fractions);
    }

    private static void tellPromises(Sentences d) {
        d.promise(11, "Likewise the VOYAGES: how many STEPS (1: above 300, too; 9).", EdgesOfLives::voyages);
        d.promise(63, "LIVED: how many STEPS were done (1; 6: no VOYAGES).", EdgesOfLives::live);
        d.promise(64, "Of live() latest with STATUS 0, what 0: MISSED, 1: DAYS, 2: tons bought, 3: how often a SHIP lay in a PORT anew, "
            + "4: 1 if a STEP was left to be done, else 0 (1; 6: there was none).", EdgesOfLives::lived);
        d.promise(65, "The FRACTION is the mean of all COINS behind the VOYAGES, by so many seeds (1 to 20) from one on "
            + "(1: the last above 9,999, too; 6: no VOYAGES); all stays as it is.", EdgesOfLives::mean);
        d.promise(65, "The FRACTION is the mean of all COINS behind the VOYAGES", EdgesOfLives::noWholeNumber);
        d.promise(65, "by so many seeds (1 to 20) from one on", EdgesOfLives::fromOneOn);
        d.promise(66, "A MARK more: how many there are (4).", EdgesOfLives::mark);
        d.promise(67, "All is taken back to the latest MARK: how many there are left (6).", EdgesOfLives::undo);
    }

    // ---- texts

    private static void taken(String text, int steps) {
        Sea.of("taken").goodVoyages(text, steps);
    }

    private static void faulty(String text, int fault, int place) {
        Sea.of("faulty").badVoyages(text, fault, place);
    }

    private static void threeHundred(Sea s) {
        s.none("none at first", s.x.live(0), 6);
        String text = "day 1" + " ".repeat(294) + ";";
        s.due("on the tape", s.feed(text), 300);
        s.fine("300 bytes", s.x.voyages(300), 1);
        s.fine("they are there", s.x.live(0), 1);
        s.feed(text + " ");
        s.none("301 bytes", s.x.voyages(301), 1);
        s.due("no fault", s.x.fault(0), 0);
        s.none("all but the sign at the end", s.x.voyages(299), 9);
        s.due("the end", s.x.fault(0), 2);
        s.due("the text's length", s.x.fault(1), 299);
        s.fine("the old ones stay", s.x.live(0), 1);
        s.fine("of no bytes", s.x.voyages(0), 0);
        s.fine("no steps", s.x.live(0), 0);
    }

    /** Each TOKEN cut off with all behind it, and each put out by others that can't stand there. */
    private static void everyToken(Sea s) {
        String text = WHOLE.replace("|", "");
        taken(text, 13);
        StringBuilder ahead = new StringBuilder();
        int depth = 0;
        boolean begun = false;
        for (String token : WHOLE.split(" ")) {
            if (token.equals("|")) {
                begun = false;
                continue;
            }
            int at = ahead.length();
            if (begun || depth > 0) {
                faulty(ahead.toString(), 2, at);
            }
            depth += token.equals("when") || token.equals("loop") ? 1 : token.equals("end") ? -1 : 0;
            faulty(ahead + "#", 1, at);
            faulty(ahead + "nation ;", 2, at);
            faulty(ahead + (token.equals(";") || token.equals("=") || token.equals(">") || token.equals("<") ? "1" : ";"), 2, at);
            ahead.append(token).append(' ');
            begun = true;
        }
        for (int i = text.indexOf(';'); i >= 0; i = text.indexOf(';', i + 1)) {
            faulty(text.substring(0, i) + "zz" + text.substring(i), 2, i);
            faulty(text.substring(0, i) + "1" + text.substring(i), 2, i);
        }
        faulty("when coins one ; end;", 2, 15);
        faulty("when;end;", 2, 4);
        faulty("when one;end;", 2, 5);
        faulty("abcdefghi 1;", 2, 0);
        faulty("any abcdefghi;", 2, 4);
        faulty("day 12345;", 1, 4);
    }

    private static void ends(Sea s) {
        faulty("end;", 2, 0);
        faulty("day 1;end;", 2, 6);
        faulty("loop 1;end;end;", 2, 11);
        faulty("loop 1;", 2, 7);
        faulty("loop 1;day 1;  ", 2, 15);
        faulty("loop 1;end", 2, 10);
        faulty("when in one bay;loop 1;end;", 2, 27);
        taken("when in one bay;loop 1;end;end;", 2);
        taken("loop 1;end;", 1);
        s.none("a text that ends within two", s.voyages("loop 1;loop 1;"), 9);
        s.badVoyages("end;", 2, 0);
        s.badVoyages("loop 1;", 2, 7);
        s.fine("is not gone on with", s.voyages("loop 1;loop 1;loop 1;end;end;end;"), 3);
    }

    private static void noSuchName(Sea s) {
        String[] kinds = {"one", "rum", "bay", "red", "zz"};
        for (String name : kinds) {
            for (String act : new String[] {"buy ", "sell ", "dump "}) {
                named(name, "one", act, " rum 1;");
                named(name, "rum", act + "one ", " 1;");
            }
            named(name, "one", "sail ", " bay;");
            named(name, "bay", "sail one ", ";");
            named(name, "one", "any ", ";");
            named(name, "one", "when ruled ", " red;end;");
            named(name, "red", "when ruled one ", ";end;");
            named(name, "one", "when in ", " bay;end;");
            named(name, "bay", "when in one ", ";end;");
            named(name, "one", "when coins ", " < 1;end;");
        }
        s.none("no names at all", s.voyages("any one;"), 9);
        s.due("fault", s.x.fault(0), 3);
    }

    private static void named(String name, String right, String ahead, String behind) {
        if (name.equals(right)) {
            taken(ahead + name + behind, 1);
        } else {
            faulty(ahead + name + behind, 3, ahead.length());
        }
    }

    private static void number(String ahead, String behind, int least, int most) {
        taken(ahead + least + ";" + behind, 1);
        taken(ahead + most + ";" + behind, 1);
        if (most < 9999) {
            faulty(ahead + (most + 1) + ";" + behind, 4, ahead.length());
            faulty(ahead + "9999;" + behind, 4, ahead.length());
        } else {
            faulty(ahead + "10000;" + behind, 1, ahead.length());
        }
        if (least > 0) {
            faulty(ahead + "0;" + behind, 4, ahead.length());
        }
    }

    private static void numbers(Sea s) {
        faulty("day 0;", 4, 4);
        faulty("day 21 #", 4, 4);
        faulty("loop 0", 4, 5);
        faulty("loop 100;", 4, 5);
        faulty("buy one rum 0", 4, 12);
        faulty("sell one rum 61", 4, 13);
        faulty("dump one rum 9999;", 4, 13);
        taken("day 0001;", 1);
    }

    private static void steps(Sea s) {
        String thirty = "stop;".repeat(30);
        taken(thirty, 30);
        faulty(thirty + "end;", 2, 150);
        faulty(thirty + "port;", 2, 150);
        faulty(thirty + "#", 1, 150);
        for (String step : STEPS) {
            faulty(thirty + " " + step, 6, 151);
        }
        taken("stop;".repeat(28) + "loop 1;loop 1;end;end;", 30);
        Sea t = Sea.of("thirty loops in 300 bytes");
        t.goodVoyages("loop1;end;".repeat(30), 30);
        t.fine("all are done", t.x.live(0), 30);
        faulty("stop;".repeat(28) + "loop 1;loop 1;end;end;stop;", 6, 140 + 22);
        faulty("stop;".repeat(27) + "loop 1;loop 1;loop 1;loop 1;", 6, 135 + 21);
    }

    private static void depth(Sea s) {
        taken("loop 1;loop 1;loop 1;stop;end;end;end;", 4);
        faulty("loop 1;loop 1;loop 1;loop 1;end;end;end;end;", 7, 21);
        faulty("loop 1;loop 1;loop 1;when", 7, 21);
        faulty("when in one bay;when in one bay;when in one bay;loop", 7, 48);
        taken("loop 1;loop 1;loop 1;end;loop 1;end;end;loop 1;loop 1;end;end;end;loop 1;end;", 7);
        faulty("loop 1;loop 1;loop 1;end;loop 1;loop", 7, 32);
    }

    private static void tons(Sea s) {
        for (String act : new String[] {"buy", "sell", "dump"}) {
            number(act + " one rum ", "", 1, 60);
        }
    }

    private static void coins(Sea s) {
        for (String sign : new String[] {"<", ">", "="}) {
            number("when coins one " + sign + " ", "end;", 0, 9999);
        }
        Sea t = Sea.of("coins");
        t.goodVoyages("when coins tri = 9999;day 1;end;when coins tri > 9998;day 1;end;when coins tri < 9999;day 1;end;when coins tri > 9999;day 1;end;", 8);
        t.fine("= and >", t.x.live(0), 6);
        t.fine("two days", t.x.lived(1), 2);
        t.x.pay(2, -9999);
        t.goodVoyages("when coins tri = 0;day 1;end;when coins tri < 1;day 1;end;when coins tri > 0;day 1;end;when coins tri < 0;day 1;end;", 8);
        t.fine("= and <", t.x.live(0), 6);
        t.fine("two days", t.x.lived(1), 2);
    }

    private static void asOften(Sea s) {
        number("loop ", "end;", 1, 99);
        int[] often = {1, 2, 99};
        for (int n : often) {
            Sea t = Sea.of("loop " + n);
            t.goodVoyages("loop " + n + ";day 1;end;", 2);
            t.fine("steps", t.x.live(0), 1 + n);
            t.fine("days", t.x.lived(1), n);
            t.fine("told", t.x.told(5), n);
        }
        s.goodVoyages("loop 2;loop 3;day 1;end;day 2;end;", 4);
        s.fine("1 + 2 (1 + 3 + 1)", s.x.live(0), 11);
        s.fine("days", s.x.lived(1), 10);
    }

    // ---- lives

    private static final String STAR = "nation n;port a;port b;port c;port d;port e;port f;way a b days 1;way a c days 1;way a d days 1;way a e days 1;way a f days 1;"
        + "ship s at a hold 1;";

    private static int draw(int seed, int times, int n) {
        int s = seed;
        for (int i = 0; i < times; i++) {
            s = (s * 3023 + 11251) % 65536;
        }
        return s / 8 % n;
    }

    private static void any(Sea s) {
        s.world(STAR);
        s.goodVoyages("any s;", 1);
        for (int seed = 0; seed < 12; seed++) {
            int port = draw(seed, 1, 6);
            s.x.mark();
            s.fine("live", s.x.live(seed), 1);
            s.due("to, by seed " + seed, s.x.ship(0, 1), port == 0 ? -1 : port);
            s.fine("the port where it lies is missed", s.x.lived(0), port == 0 ? 1 : 0);
            s.x.undo();
        }
        s.world("port a;ship s at a hold 1;");
        s.goodVoyages("any s;any s;", 2);
        s.fine("one port alone", s.x.live(5), 2);
        s.fine("both are missed", s.x.lived(0), 2);
    }

    private static void missedIs(String text, int steps, int missed) {
        Sea s = Sea.of("missed: " + text);
        s.goodVoyages(text, steps);
        s.fine("live", s.x.live(0), steps);
        s.fine("missed", s.x.lived(0), missed);
    }

    private static void missed(Sea s) {
        missedIs("buy one rum 5;", 1, 0);
        missedIs("buy one rum 6;", 1, 1);
        missedIs("buy one fur 1;", 1, 1);
        missedIs("buy tri rum 60;buy tri rum 1;", 2, 1);
        missedIs("sell one rum 2;", 1, 0);
        missedIs("sell one rum 3;", 1, 1);
        missedIs("sell two tea 5;sell two tea 1;", 2, 1);
        missedIs("dump one tea 3;", 1, 0);
        missedIs("dump one tea 4;", 1, 1);
        missedIs("sail one bay;", 1, 0);
        missedIs("sail one ash;", 1, 1);
        missedIs("sail one cay;", 1, 1);
        missedIs("sail one bay;sail one bay;buy one rum 1;sell one rum 1;dump one rum 1;any one;", 6, 4);
        s.world(Sea.WORLD);
        for (int i = 0; i < 100; i++) {
            s.x.day(99);
        }
        s.x.day(80);
        s.goodVoyages("day 20;day 19;day 1;", 3);
        s.fine("from 9,980", s.x.live(0), 3);
        s.fine("20 as a whole, then 1", s.x.lived(0), 2);
        s.fine("19", s.x.lived(1), 19);
        s.fine("9,999", s.x.told(5), 9999);
    }

    private static void stepsAre(String text, int in, int done, int left, int days) {
        Sea s = Sea.of("steps: " + text);
        s.goodVoyages(text, in);
        s.fine("done", s.x.live(0), done);
        s.fine("left", s.x.lived(4), left);
        s.fine("days", s.x.lived(1), days);
    }

    private static void threeHundredSteps(Sea s) {
        stepsAre("loop 99;day 1;day 1;day 1;end;day 1;", 5, 299, 0, 298);
        stepsAre("loop 99;day 1;day 1;day 1;end;day 1;day 1;", 6, 300, 0, 299);
        stepsAre("loop 99;day 1;day 1;day 1;end;day 1;day 1;day 1;", 7, 300, 1, 299);
        stepsAre("loop 99;day 1;day 1;day 1;end;day 1;day 1;stop;", 7, 300, 1, 299);
        stepsAre("loop 99;day 1;day 1;day 1;end;day 1;stop;day 1;", 7, 300, 0, 298);
        stepsAre("loop 99;day 1;day 1;day 1;end;day 1;loop 99;end;", 6, 300, 0, 298);
        stepsAre("loop 99;day 1;day 1;day 1;end;day 1;loop 99;day 1;end;", 7, 300, 1, 298);
        stepsAre("loop 99;day 1;day 1;day 1;end;day 1;when in one bay;day 1;end;", 7, 300, 0, 298);
        stepsAre("loop 99;day 1;day 1;day 1;end;day 1;when in one ash;day 1;end;", 7, 300, 1, 298);
        // when and loop within a loop are come to from ahead each time: 1 + 99 (1 + 1 + 1) = 298.
        stepsAre("loop 99;when in one ash;loop 1;day 1;end;end;end;", 4, 298, 0, 99);
        stepsAre("loop 99;loop 3;end;loop 2;end;loop 1;end;end;day 1;day 1;", 6, 300, 0, 2);
        stepsAre("loop 99;loop 99;day 1;end;end;", 3, 300, 1, 296);
        stepsAre("loop 99;loop 99;loop 99;end;end;end;", 3, 300, 1, 0);
    }

    private static void tests(Sea s) {
        String[] yes = {"ruled one blue", "in one ash", "in two bay", "coins one < 41", "coins one > 39", "coins one = 40"};
        String[] no = {"ruled one red", "ruled one green", "ruled tri red", "in one bay", "in two ash", "coins one < 40", "coins one > 40",
            "coins one = 39", "coins one = 41"};
        for (String test : yes) {
            stepsAre("when " + test + ";day 1;end;day 2;", 3, 3, 0, 3);
        }
        for (String test : no) {
            stepsAre("when " + test + ";day 1;loop 2;stop;end;end;day 2;", 5, 2, 0, 2);
        }
        s.world(Sea.WORLD);
        s.x.sail(0, 1);
        s.goodVoyages("when in one ash;day 1;end;when in one bay;day 1;end;", 4);
        s.fine("at sea it is in none", s.x.live(0), 2);
    }

    private static void asItIsThen(Sea s) {
        s.world(Sea.WORLD);
        s.goodVoyages("buy one rum 1;sail one bay;day 1;", 3);
        s.fine("seed 0", s.x.live(0), 3);
        s.fine("the day", s.x.told(5), 1);
        s.fine("at sea", s.x.ship(0, 2), 1);
        s.fine("rum: bought, leaked", s.x.aboard(0, 0), 2);
        s.fine("coins: 5, a wage", s.x.ship(0, 4), 40 - 5);
        s.fine("seed 9,999, from there on", s.x.live(9999), 3);
        s.fine("the day", s.x.told(5), 2);
        s.fine("in bay", s.x.ship(0, 0), 1);
        s.none("seed -1", s.x.live(-1), 1);
        s.none("seed 10,000", s.x.live(10000), 1);
        s.fine("as it was", s.x.told(5), 2);
    }

    private static void draws(Sea s) {
        // By hand: seed 0: 11,251 / 8 = 1,406, by 6: 2. Seed 1: 14,274 / 8 = 1,784, by 6: 2. Seed 18: 65,665 - 65,536 = 129 / 8 = 16, by 6: 4.
        int[][] byHand = {{0, 2}, {1, 2}, {18, 4}};
        for (int[] h : byHand) {
            Sea t = new Sea("draws by hand");
            t.world(STAR);
            t.goodVoyages("any s;", 1);
            t.x.live(h[0]);
            t.fine("to, by seed " + h[0], t.x.ship(0, 1), h[1]);
        }
        s.world(STAR);
        s.goodVoyages("any s;day 1;sail s a;day 1;any s;day 1;sail s a;day 1;any s;", 9);
        for (int seed : new int[] {0, 1, 7, 5000, 9998, 9999}) {
            s.x.mark();
            s.fine("live", s.x.live(seed), 9);
            int third = draw(seed, 3, 6);
            s.due("the third draw by " + seed, s.x.ship(0, 1), third == 0 ? -1 : third);
            s.x.undo();
        }
        s.goodVoyages("sail s b;any s;day 1;sail s a;day 1;any s;", 6);
        s.x.mark();
        s.fine("live", s.x.live(18), 6);
        s.due("one that is missed draws, too", s.x.ship(0, 1), draw(18, 2, 6));
        s.x.undo();
    }

    private static void marks(Sea s) {
        s.world(Sea.WORLD);
        s.goodVoyages("day 1;", 1);
        s.fine("1", s.x.mark(), 1);
        s.fine("2", s.x.mark(), 2);
        s.fine("3", s.x.mark(), 3);
        s.none("4", s.x.mark(), 4);
        s.fine("another world", s.world("port z;"), 0);
        s.none("a mark too many still", s.x.mark(), 4);
        s.none("no voyages", s.x.live(0), 6);
        s.fine("2", s.x.undo(), 2);
        s.fine("the voyages are kept", s.x.live(0), 1);
        s.fine("3 again", s.x.mark(), 3);
        s.none("4", s.x.mark(), 4);
    }

    private static void takenBack(Sea s) {
        s.world(Sea.WORLD);
        s.x.sail(1, 2);
        s.x.day(1);
        s.goodVoyages("day 1;day 1;", 2);
        String was = s.all();
        s.x.mark();
        s.x.buy(0, 0, 1);
        s.x.dump(1, 1, 1);
        s.x.sail(0, 1);
        s.x.pay(2, -9000);
        s.x.rule(2);
        s.x.war(0, 1, false);
        s.x.trade(0, 0, 77);
        s.x.live(3);
        s.goodVoyages("stop;", 1);
        s.fine("0 left", s.x.undo(), 0);
        s.same("all is taken back", s.all(), was);
        s.fine("the voyages, too", s.x.live(0), 2);
        s.none("the mark is gone", s.x.undo(), 6);
        s.fine("nothing was taken back", s.x.told(5), 3);
    }

    private static void fractions(Sea s) {
        s.fraction("at first", 0, 1);
        s.world("nation a;nation b;nation c;good g of a worth 99;good h of b worth 66;good i of c worth 1;port p;ship s at p hold 60 coins 7;ship t at p hold 9 coins 8;"
            + "aboard s g 20;aboard s h 40;rule 2;");
        s.fine("1,980 by 4,620", s.x.share(0, 0));
        s.fraction("3 by 7", 3, 7);
        s.fine("2,640 by 4,620", s.x.share(0, 1));
        s.fraction("4 by 7", 4, 7);
        s.fine("0", s.x.share(0, 2));
        s.fraction("0 by 1", 0, 1);
        s.goodVoyages("day 1;", 1);
        s.fine("20 times 15 by 20", s.x.mean(0, 20));
        s.fraction("15 by 1", 15, 1);
        s.x.pay(0, -7);
        s.x.pay(1, -8);
        s.fine("no coins", s.x.mean(0, 20));
        s.fraction("0 by 1", 0, 1);
    }

    // ---- promises

    private static void voyages(Sea s) {
        s.world(Sea.WORLD);
        for (int no : new int[] {-1, 1, 300, 301, Integer.MIN_VALUE, Integer.MAX_VALUE}) {
            s.none("n " + no + " of an empty tape", s.x.voyages(no), 1);
        }
        s.feed("day 1;" + " ".repeat(314));
        s.none("above 300", s.x.voyages(301), 1);
        s.none("above 300", s.x.voyages(320), 1);
        s.none("more than the tape has", s.x.voyages(321), 1);
        s.due("the tape stays", s.x.feed(0x20202020, 0, 0, 0, 0), 340);
        s.fine("300", s.x.voyages(300), 1);
        s.none("the tape is empty then", s.x.voyages(1), 1);
        s.fine("steps", s.voyages("loop 2;stop;end;day 1;"), 3);
        s.none("a fault", s.voyages("day 1;day 1;day"), 9);
        s.none("the tape is empty then", s.x.voyages(1), 1);
        s.fine("the old ones stay", s.x.live(0), 2);
        s.fine("the world stays", s.x.told(3), 3);
        s.fine("30 steps", s.voyages("stop;".repeat(30)), 30);
        s.fine("none", s.x.voyages(0), 0);
    }

    private static void live(Sea s) {
        s.world(Sea.WORLD);
        s.none("no voyages", s.x.live(0), 6);
        for (int no : new int[] {-1, 10000, Integer.MIN_VALUE, Integer.MAX_VALUE}) {
            s.none("seed " + no + ", ahead of 6", s.x.live(no), 1);
        }
        s.goodVoyages("sail one ash;day 1;stop;day 1;", 4);
        s.fine("three, with the missed one and stop", s.x.live(0), 3);
        s.fine("three", s.x.live(9999), 3);
        s.goodVoyages("when in one bay;day 1;end;", 2);
        s.fine("one", s.x.live(0), 1);
        s.fine("none", s.x.voyages(0), 0);
        s.fine("voyages of no steps", s.x.live(0), 0);
        s.fine("a new world", s.world("port p;"), 0);
        s.none("no voyages", s.x.live(0), 6);
    }

    private static void lived(Sea s) {
        s.world(Sea.WORLD);
        for (int no : new int[] {-1, 5, Integer.MIN_VALUE, Integer.MAX_VALUE}) {
            s.none("what " + no + ", ahead of 6", s.x.lived(no), 1);
        }
        for (int what = 0; what < 5; what++) {
            s.none("there was none", s.x.lived(what), 6);
        }
        s.none("no voyages", s.x.live(0), 6);
        s.none("there was none still", s.x.lived(0), 6);
        s.goodVoyages("buy one rum 2;buy tri tea 5;buy one rum 60;sail one bay;sail tri bay;day 2;sail tri ash;day 3;", 8);
        s.none("not lived yet", s.x.lived(0), 6);
        s.fine("live", s.x.live(0), 8);
        int[] due = {1, 5, 7, 3, 0};
        for (int what = 0; what < 5; what++) {
            s.fine("what " + what, s.x.lived(what), due[what]);
        }
        s.none("refused", s.x.live(10000), 1);
        s.fine("the latest with 0", s.x.lived(2), 7);
        s.fine("mean", s.x.mean(0, 1));
        s.fine("mean is no live", s.x.lived(2), 7);
        s.goodVoyages("loop 99;loop 99;day 1;end;end;", 3);
        s.fine("new voyages tell nothing yet", s.x.lived(2), 7);
        s.fine("live", s.x.live(0), 300);
        int[] then = {0, 296, 0, 0, 1};
        for (int what = 0; what < 5; what++) {
            s.fine("what " + what, s.x.lived(what), then[what]);
        }
        for (int no : new int[] {-1, 5}) {
            s.none("what " + no, s.x.lived(no), 1);
        }
    }

    private static void mean(Sea s) {
        s.world(Sea.WORLD);
        s.no("no voyages", s.x.mean(0, 1), 6);
        int[][] no = {{-1, 1}, {10000, 1}, {0, 0}, {0, -1}, {0, 21}, {9981, 20}, {9999, 2}, {Integer.MAX_VALUE, 1}, {Integer.MIN_VALUE, 1},
            {0, Integer.MAX_VALUE}, {0, Integer.MIN_VALUE}, {Integer.MAX_VALUE, 20}};
        for (int[] n : no) {
            s.no("seed " + n[0] + ", many " + n[1], s.x.mean(n[0], n[1]), 1);
        }
        s.fraction("as it was", 0, 1);
        s.goodVoyages("buy one rum 1;any tri;day 20;", 3);
        String was = s.all();
        s.fine("the last seed", s.x.mean(9999, 1));
        s.due("a whole number", s.x.bottom(), 1);
        s.fine("20 to the last seed", s.x.mean(9980, 20));
        s.same("all stays as it is", s.all(), was);
        s.none("nothing was lived", s.x.lived(0), 6);
        s.goodVoyages("buy one rum 1;buy tri tea 2;", 2);
        s.fine("two seeds, the same each", s.x.mean(5, 2));
        s.fraction("10,139 - 5 - 6", 10128, 1);
        s.fine("the coins stay", s.x.told(9), 10139);
    }

    private static void noWholeNumber(Sea s) {
        // A ship that is ruled pays a wage of 3 a day at sea: a mean that is no whole number, by one seed that sails and one that does not.
        s.world("nation a wage 3;good g of a worth 1;port p;port q;way p q days 1;ship s at p hold 9 coins 10;aboard s g 1;");
        s.goodVoyages("any s;day 1;", 2);
        int sails = draw(0, 1, 2) + draw(1, 1, 2) + draw(2, 1, 2);
        s.fine("three seeds", s.x.mean(0, 3));
        s.due("of three", s.x.top() * 3, (30 - 3 * sails) * s.x.bottom());
        s.fine("voyages of no steps", s.x.voyages(0), 0);
        s.fine("mean", s.x.mean(0, 20));
        s.fraction("as it is", 10, 1);
    }

    private static void fromOneOn(Sea s) {
        s.world("nation a wage 3;good g of a worth 1;port p;port q;port r;way p q days 9;ship s at p hold 9 coins 100;aboard s g 1;");
        s.goodVoyages("any s;day 1;any s;day 1;any s;day 2;", 6);
        for (int from : new int[] {0, 5000, 9980}) {
            long sum = 0;
            for (int seed = from; seed < from + 20; seed++) {
                s.x.mark();
                s.x.live(seed);
                sum += s.x.told(9);
                s.x.undo();
            }
            s.fine("20 from " + from, s.x.mean(from, 20));
            s.due("their mean", s.x.top() * 20, sum * s.x.bottom());
            s.due("not all are the same", sum % 20 != 0 || sum / 20 != 100, true);
        }
    }

    private static void mark(Sea s) {
        for (int i = 1; i <= 3; i++) {
            s.fine("mark", s.x.mark(), i);
        }
        s.none("a fourth", s.x.mark(), 4);
        s.none("a fourth", s.x.mark(), 4);
        s.fine("undo", s.x.undo(), 2);
        s.fine("a third", s.x.mark(), 3);
        s.none("a fourth", s.x.mark(), 4);
        s.fine("a world does not take them", s.x.world(0), 0);
        s.none("a fourth", s.x.mark(), 4);
    }

    private static void undo(Sea s) {
        s.none("none", s.x.undo(), 6);
        for (int i = 1; i <= 3; i++) {
            s.x.day(i);
            s.x.mark();
        }
        s.x.day(50);
        int[] days = {6, 3, 1};
        for (int i = 0; i < 3; i++) {
            s.fine("left", s.x.undo(), 2 - i);
            s.fine("the day", s.x.told(5), days[i]);
        }
        s.none("none", s.x.undo(), 6);
        s.fine("as it was", s.x.told(5), 1);
        s.world(Sea.WORLD);
        s.x.mark();
        s.fine("a new world", s.world("port p;"), 0);
        s.fine("left", s.x.undo(), 0);
        s.fine("the old world", s.x.told(3), 3);
        s.goodVoyages("any one;", 1);
        s.badWorld("port one", 2, 8);
        s.fine("its names are as they were", s.voyages("any tri;"), 1);
    }
}
