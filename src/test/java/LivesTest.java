/** Promises 11 and 63 to 67: voyages as a text, lives, marks. */
public final class LivesTest {
    public static void main(String[] args) {
        voyages();
        tokensAndPlaces();
        names();
        numbers();
        stepsAndDepth();
        live();
        missed();
        tests();
        loops();
        bound();
        draws();
        lived();
        mean();
        meanOfNoSteps();
        newWorldBehindMean();
        marks();
        Sea.end("LivesTest");
    }

    private static void voyages() {
        Sea s = Sea.of("voyages");
        s.none("below 0", s.x.voyages(-1), 1);
        s.none("more than the tape", s.x.voyages(1), 1);
        StringBuilder blanks = new StringBuilder();
        for (int i = 0; i < 320; i++) {
            blanks.append(' ');
        }
        s.feed(blanks.toString());
        s.none("301", s.x.voyages(301), 1);
        s.fine("300", s.x.voyages(300), 0);
        s.none("the tape is empty", s.x.voyages(1), 1);
        s.goodVoyages("day 1;", 1);
        s.goodVoyages("when ruled one red;day 1;end;loop 2;stop;end;", 4);
        s.badVoyages("day 1;day", 2, 9);
        s.fine("the old ones stay: when, loop, stop", s.x.live(0), 3);
        s.none("the tape is empty", s.x.voyages(1), 1);
        s.due("1 leaves what fault tells", s.x.fault(0), 2);
        s.goodVoyages("", 0);
        s.fine("no steps", s.x.live(0), 0);
    }

    private static void tokensAndPlaces() {
        Sea s = Sea.of("voyages' tokens");
        s.badVoyages("!", 1, 0);
        s.badVoyages("day 12345;", 1, 4);
        s.badVoyages("port x;", 2, 0);
        s.badVoyages("one;", 2, 0);
        s.badVoyages("ruled;", 2, 0);
        s.badVoyages("in;", 2, 0);
        s.badVoyages("abcdefghi;", 2, 0);
        s.badVoyages("day;", 2, 3);
        s.badVoyages("day one;", 2, 4);
        s.badVoyages("day 1", 2, 5);
        s.badVoyages("day 1 2;", 2, 6);
        s.badVoyages("buy one 3;", 2, 8);
        s.badVoyages("buy one rum;", 2, 11);
        s.badVoyages("buy day rum 1;", 2, 4);
        s.badVoyages("buy abcdefghi rum 1;", 2, 4);
        s.badVoyages("sail one;", 2, 8);
        s.badVoyages("any;", 2, 3);
        s.badVoyages("any one bay;", 2, 8);
        s.badVoyages("end;", 2, 0);
        s.badVoyages("loop 2;end;end;", 2, 11);
        s.badVoyages("loop 2;end", 2, 10);
        s.badVoyages("loop 2;", 2, 7);
        s.badVoyages("loop 2;day 1; ", 2, 14);
        s.badVoyages("when one red;end;", 2, 5);
        s.badVoyages("when coins one 5;end;", 2, 15);
        s.badVoyages("when coins one ;end;", 2, 15);
        s.badVoyages("when coins one <;end;", 2, 16);
        s.badVoyages("when coins one < < 5;end;", 2, 17);
        s.badVoyages("when day one;end;", 2, 5);
        s.badVoyages("stop 1;", 2, 5);
        for (String c : new String[] {"<", ">", "="}) {
            s.goodVoyages("when coins one" + c + "5;end;", 1);
        }
        s.goodVoyages("buy one rum 1;sell one rum 1;dump one rum 1;sail one bay;any one;when in one bay;end;when ruled one red;end;stop;day 1;loop 1;end;", 10);
    }

    private static void names() {
        Sea s = Sea.of("voyages' names");
        for (String act : new String[] {"buy", "sell", "dump"}) {
            int l = act.length() + 1;
            for (String no : new String[] {"rum", "bay", "red", "zz"}) {
                s.badVoyages(act + " " + no + " rum 1;", 3, l);
            }
            for (String no : new String[] {"one", "bay", "red", "zz"}) {
                s.badVoyages(act + " one " + no + " 1;", 3, l + 4);
            }
        }
        for (String no : new String[] {"one", "rum", "red", "zz"}) {
            s.badVoyages("sail one " + no + ";", 3, 9);
            s.badVoyages("when in one " + no + ";end;", 3, 12);
        }
        for (String no : new String[] {"bay", "rum", "red", "zz"}) {
            s.badVoyages("sail " + no + " bay;", 3, 5);
            s.badVoyages("any " + no + ";", 3, 4);
            s.badVoyages("when in " + no + " bay;end;", 3, 8);
            s.badVoyages("when ruled " + no + " red;end;", 3, 11);
            s.badVoyages("when coins " + no + " < 1;end;", 3, 11);
        }
        for (String no : new String[] {"bay", "rum", "one", "zz"}) {
            s.badVoyages("when ruled one " + no + ";end;", 3, 15);
        }
    }

    private static void numbers() {
        Sea s = Sea.of("voyages' numbers");
        s.badVoyages("day 0;", 4, 4);
        s.badVoyages("day 21;", 4, 4);
        s.goodVoyages("day 20;", 1);
        s.badVoyages("loop 0;end;", 4, 5);
        s.badVoyages("loop 100;end;", 4, 5);
        s.goodVoyages("loop 99;end;", 1);
        for (String act : new String[] {"buy", "sell", "dump"}) {
            int l = act.length() + 9;
            s.badVoyages(act + " one rum 0;", 4, l);
            s.badVoyages(act + " one rum 61;", 4, l);
            s.goodVoyages(act + " one rum 60;", 1);
        }
        s.goodVoyages("when coins one = 0;end;when coins one = 9999;end;", 2);
    }

    private static void stepsAndDepth() {
        Sea s = Sea.of("steps and depth");
        StringBuilder t = new StringBuilder();
        for (int i = 0; i < 15; i++) {
            t.append("loop 1;stop;end;");
        }
        s.goodVoyages(t.toString(), 30);
        s.badVoyages(t + "day 1;", 6, t.length());
        s.badVoyages(t + "loop", 6, t.length());
        s.badVoyages(t + "end;", 2, t.length());
        s.goodVoyages("loop 1;loop 1;when in one bay;day 1;end;end;end;", 4);
        s.badVoyages("loop 1;loop 1;when in one bay;loop 1;end;end;end;end;", 7, 30);
        s.badVoyages("loop 1;loop 1;when in one bay;when", 7, 30);
        s.goodVoyages("loop 1;loop 1;when in one bay;end;loop 1;end;end;end;", 4);
        t.setLength(0);
        for (int i = 0; i < 27; i++) {
            t.append("stop;");
        }
        t.append("loop 1;loop 1;loop 1;");
        s.badVoyages(t + "loop 1;", 6, t.length());
        s.goodVoyages(t + "end;end;end;", 30);
    }

    private static void live() {
        Sea s = Sea.of("live");
        s.none("below 0", s.x.live(-1), 1);
        s.none("10,000", s.x.live(10000), 1);
        s.none("no voyages", s.x.live(9999), 6);
        s.goodVoyages("buy one rum 3;sail one bay;day 3;sell one rum 3;dump one tea 1;stop;day 9;", 7);
        // Rum 5, tea 3: red, then rum 4, tea 1: red; two wages of 3; duty of blue for rum 3 (tea is gone).
        s.fine("six steps", s.x.live(9999), 6);
        s.fine("missed: the dump, the sale", s.x.lived(0), 2);
        s.fine("days", s.x.lived(1), 3);
        s.fine("bought", s.x.lived(2), 3);
        s.fine("entered", s.x.lived(3), 1);
        s.fine("nothing was left", s.x.lived(4), 0);
        s.fine("in bay", s.x.ship(0, 0), 1);
        s.fine("rum", s.x.aboard(0, 0), 2);
        s.fine("coins 40 - 15 - 6 - 3", s.x.ship(0, 4), 16);
        s.fine("day", s.x.told(5), 3);
        s.fine("again from there", s.x.live(9999), 6);
        s.fine("missed: buy no, sail no", s.x.lived(0), 4);
    }

    private static void missed() {
        Sea s = Sea.of("missed");
        s.goodVoyages("sell one fur 1;sell one rum 3;buy one fur 1;buy one rum 9;dump one rum 3;sail one ash;sail one cay;sail one bay;sail one ash;"
            + "any one;buy one rum 1;sell one rum 1;dump one rum 2;", 13);
        s.fine("all are done", s.x.live(0), 13);
        s.fine("all but a sail and a dump", s.x.lived(0), 11);
        for (int i = 0; i < 100; i++) {
            s.x.day(99);
        }
        s.x.day(89);
        s.goodVoyages("day 11;day 10;day 1;", 3);
        s.fine("live", s.x.live(0), 3);
        s.fine("as a whole", s.x.lived(0), 2);
        s.fine("ten", s.x.lived(1), 10);
        s.fine("the last day", s.x.told(5), 9999);
    }

    private static void tests() {
        Sea s = Sea.of("tests");
        String[] yes = {"ruled one blue", "in one ash", "coins one < 41", "coins one > 39", "coins one = 40"};
        String[] no = {"ruled one red", "in one bay", "coins one < 40", "coins one > 40", "coins one = 39"};
        for (int i = 0; i < 5; i++) {
            s.x.mark();
            s.goodVoyages("when " + yes[i] + ";day 1;end;day 2;", 3);
            s.fine(yes[i], s.x.live(0), 3);
            s.fine("days", s.x.lived(1), 3);
            s.x.undo();
            s.x.mark();
            s.goodVoyages("when " + no[i] + ";day 1;loop 3;stop;end;end;day 2;", 5);
            s.fine(no[i], s.x.live(0), 2);
            s.fine("days", s.x.lived(1), 2);
            s.x.undo();
        }
        s.x.sail(0, 1);
        s.goodVoyages("when in one ash;day 1;end;when in one bay;day 1;end;", 4);
        s.fine("at sea it is in none", s.x.live(0), 2);
        s.goodVoyages("when ruled tri red;day 1;end;", 2);
        s.fine("lawless", s.x.live(0), 1);
    }

    private static void loops() {
        Sea s = Sea.of("loops");
        s.goodVoyages("loop 3;day 2;end;day 1;", 3);
        s.fine("1 + 3 + 1", s.x.live(0), 5);
        s.fine("days", s.x.lived(1), 7);
        s.goodVoyages("loop 3;loop 2;day 1;end;end;", 3);
        s.fine("1 + 3 (1 + 2)", s.x.live(0), 10);
        s.fine("days", s.x.lived(1), 6);
        s.goodVoyages("loop 4;when coins one = 40;day 1;end;end;", 3);
        s.fine("1 + 4 (1 + 1)", s.x.live(0), 9);
        s.goodVoyages("loop 99;end;loop 99;end;day 1;", 3);
        s.fine("empty loops", s.x.live(0), 3);
        s.fine("nothing was left", s.x.lived(4), 0);
        s.goodVoyages("loop 5;day 1;stop;end;", 3);
        s.fine("stop within", s.x.live(0), 3);
        s.fine("nothing was left", s.x.lived(4), 0);
    }

    private static void bound() {
        Sea s = Sea.of("bound");
        s.goodVoyages("loop 99;day 1;day 1;end;loop 99;day 1;end;loop 1;end;", 6);
        // 1 + 198 + 1 + 99 + 1: just 300.
        s.fine("300", s.x.live(0), 300);
        s.fine("nothing was left", s.x.lived(4), 0);
        s.goodVoyages("loop 99;day 1;day 1;end;loop 99;day 1;end;loop 1;end;stop;", 7);
        s.fine("300", s.x.live(0), 300);
        s.fine("stop was left", s.x.lived(4), 1);
        s.goodVoyages("loop 99;day 1;day 1;day 1;end;", 4);
        s.fine("298", s.x.live(0), 298);
        s.goodVoyages("loop 2;loop 99;day 1;day 1;end;end;", 4);
        s.fine("300", s.x.live(0), 300);
        // 1 + 1 + 198 + 1 + 99 of the days.
        s.fine("days", s.x.lived(1), 297);
        s.fine("left", s.x.lived(4), 1);
        s.goodVoyages("loop 99;loop 99;loop 99;end;end;end;", 3);
        s.fine("300", s.x.live(0), 300);
        s.fine("left", s.x.lived(4), 1);
    }

    private static void draws() {
        // Seed 7: s = 7 x 3023 + 11251 = 32412; by 8: 4051; by 4 ports: 3, dun: no way. Then s = 32412 x 3023 + 11251.
        Sea s = Sea.of("draws");
        s.goodVoyages("any one;", 1);
        s.fine("live", s.x.live(7), 1);
        s.fine("to dun there is no way", s.x.lived(0), 1);
        s.goodVoyages("any one;any one;any one;any one;any one;any one;", 6);
        for (int seed = 0; seed < 25; seed++) {
            s.x.mark();
            long d = seed;
            int port = 0;
            int missed = 0;
            boolean sea = false;
            for (int i = 0; i < 6; i++) {
                d = (d * 3023 + 11251) % 65536;
                boolean can = !sea && s.x.way(port, (int) (d / 8 % 4)) > 0;
                if (can) {
                    sea = true;
                    port = (int) (d / 8 % 4);
                } else {
                    missed++;
                }
            }
            s.fine("live", s.x.live(seed), 6);
            s.fine("missed by seed " + seed, s.x.lived(0), missed);
            s.due("to", s.x.ship(0, 1), sea ? port : -1);
            s.x.undo();
        }
    }

    private static void lived() {
        Sea s = Sea.of("lived");
        s.none("what 5, ahead of any", s.x.lived(5), 1);
        s.none("ahead of any", s.x.lived(4), 6);
        s.x.live(0);
        s.none("a live without voyages is none", s.x.lived(0), 6);
        s.goodVoyages("day 3;sail one bay;sail two ash;day 2;", 4);
        s.none("not lived yet", s.x.lived(1), 6);
        s.x.mark();
        s.fine("live", s.x.live(0), 4);
        s.fine("two entered", s.x.lived(3), 2);
        s.x.undo();
        s.fine("what was lived is told still", s.x.lived(1), 5);
        s.x.live(-1);
        s.fine("by the latest with 0", s.x.lived(1), 5);
        s.fine("mean", s.x.mean(0, 2));
        s.fine("mean is no live", s.x.lived(1), 5);
        s.fine("a new world", s.world("port p;"), 0);
        s.fine("still", s.x.lived(1), 5);
        s.none("what -1", s.x.lived(-1), 1);
        s.none("what 5", s.x.lived(5), 1);
    }

    private static void mean() {
        Sea s = Sea.of("mean");
        s.no("no voyages", s.x.mean(0, 1), 6);
        s.no("many 0", s.x.mean(0, 0), 1);
        s.no("many 21", s.x.mean(0, 21), 1);
        s.no("seed -1", s.x.mean(-1, 1), 1);
        s.no("seed 10,000", s.x.mean(10000, 1), 1);
        s.no("the last above 9,999", s.x.mean(9999, 2), 1);
        s.goodVoyages("any one;any tri;day 2;any one;any tri;buy tri rum 20;day 5;", 7);
        String was = s.all();
        long sum = 0;
        for (int seed = 9980; seed < 10000; seed++) {
            s.x.mark();
            s.x.live(seed);
            sum += s.x.told(9);
            s.x.undo();
        }
        s.fine("mean", s.x.mean(9980, 20));
        s.due("by sums", s.x.top() * 20, sum * s.x.bottom());
        s.due("no common divisor", java.math.BigInteger.valueOf(s.x.top()).gcd(java.math.BigInteger.valueOf(s.x.bottom())).intValue(), 1);
        s.same("all stays", s.all(), was);
        s.fine("one seed", s.x.mean(9999, 1));
        s.due("a whole", s.x.bottom(), 1);
        s.no("refused", s.x.mean(9981, 20), 1);
        s.due("stays", s.x.bottom(), 1);
    }

    private static void meanOfNoSteps() {
        Sea s = Sea.of("mean of no steps");
        s.goodVoyages("", 0);
        s.fine("no steps", s.x.mean(0, 3));
        s.fraction("as it is", 10139, 1);
        s.x.pay(0, -40);
        s.x.pay(1, -100);
        s.x.pay(2, -9999);
        s.fine("no coins", s.x.mean(0, 3));
        s.fraction("0 by 1", 0, 1);
    }

    private static void newWorldBehindMean() {
        Sea s = new Sea("new world behind mean");
        String text = "nation a wage 5 duty 2;nation b duty 9;good g of a worth 1;port p;port q of b;way p q days 3;ship s at p hold 9 coins 6;aboard s g 1;rule 1;";
        s.fine("world", s.world(text), 1);
        String was = s.all();
        s.x.sail(0, 1);
        s.x.day(5);
        s.x.sail(0, 0);
        s.x.day(1);
        s.x.pay(0, 9);
        s.goodVoyages("day 1;", 1);
        s.fine("mean", s.x.mean(3, 4));
        s.fine("the same world again", s.world(text), 1);
        s.same("is as it was", s.all(), was);
    }

    private static void marks() {
        Sea s = new Sea("marks");
        s.world("nation red;nation blue;nation green;war red blue;good rum of red worth 10 leaks 1;good tea of blue worth 4 leaks 2;port ash;port bay;port cay;"
            + "way ash bay days 2;way bay cay days 3;price ash rum 5;ship one at ash hold 10 coins 40;ship two at bay hold 20;aboard one rum 2;aboard two tea 5;");
        s.none("none", s.x.undo(), 6);
        String first = s.all();
        s.goodVoyages("day 4;", 1);
        s.fine("1", s.x.mark(), 1);
        s.x.buy(0, 0, 1);
        s.x.sail(1, 2);
        s.x.day(5);
        s.x.rule(2);
        s.x.war(0, 2, true);
        s.x.trade(2, 1, 8);
        s.x.tray(0, 0, 1);
        s.x.write(0, 0, 9);
        s.x.share(0, 0);
        String second = s.all();
        long top = s.x.top();
        s.fine("2", s.x.mark(), 2);
        s.fine("another world", s.world("port p;ship z at p hold 1;"), 1);
        s.goodVoyages("any z;any z;", 2);
        String third = s.all();
        s.fine("3", s.x.mark(), 3);
        s.none("a fourth", s.x.mark(), 4);
        s.x.day(7);
        s.goodVoyages("day 1;day 1;day 1;", 3);
        s.fine("2 left", s.x.undo(), 2);
        s.same("third", s.all(), third);
        s.fine("its voyages", s.x.live(0), 2);
        s.fine("1 left", s.x.undo(), 1);
        s.same("second", s.all(), second);
        s.fine("the tray stays", s.x.read(0, 0), 9);
        s.due("the fraction stays", s.x.top(), top);
        s.goodVoyages("sail one bay;", 1);
        s.fine("0 left", s.x.undo(), 0);
        s.same("first", s.all(), first);
        s.fine("its voyages", s.x.live(0), 1);
        s.fine("day", s.x.told(5), 4);
        s.none("none", s.x.undo(), 6);
        s.fine("1 again", s.x.mark(), 1);
        s.due("fault is not taken back", s.x.fault(0), 0);
    }
}
