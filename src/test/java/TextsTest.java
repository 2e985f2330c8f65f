/** Promises 9, 10, 12 to 20: the tape, worlds, and what they tell. */
public final class TextsTest {
    public static void main(String[] args) {
        feed();
        world();
        tokens();
        outOfPlace();
        names();
        numbers();
        twice();
        oneMore();
        fullWorld();
        firstAlongTheText();
        oldWorldStays();
        told();
        nationsAndGoods();
        portsAndWays();
        ships();
        Sea.end("TextsTest");
    }

    private static void feed() {
        Sea s = new Sea("feed");
        for (int i = 1; i <= 45; i++) {
            s.due("feed", s.x.feed(0x20202020, 0x20202020, 0x0a0a0a0a, 0x20202020, 0x20202020), 20 * i);
        }
        s.due("one too many", s.x.feed(0, 0, 0, 0, 0), -1);
        s.fine("900 blanks", s.x.world(900), 0);
        s.due("the tape is empty then", s.x.feed(0, 0, 0, 0, 0), 20);
        // 'p' is the highest byte of the first int.
        s = new Sea("feed, the highest first");
        s.x.feed(0x706f7274, 0x2070203b, 0, 0, 0);
        s.fine("world", s.x.world(8), 0);
        s.fine("a port", s.x.told(2), 1);
    }

    private static void world() {
        Sea s = new Sea("world");
        s.none("n below 0", s.x.world(-1), 1);
        s.none("more than the tape", s.x.world(1), 1);
        s.feed("port p;");
        s.none("more than the tape", s.x.world(21), 1);
        s.due("1 leaves the tape", s.x.feed(0, 0, 0, 0, 0), 40);
        s.due("1 tells no fault", s.x.fault(0), -1);
        s.fine("the first seven", s.x.world(7), 0);
        s.due("no fault", s.x.fault(0), 0);
        s.due("no place", s.x.fault(1), -1);
        s.due("others", s.x.fault(2), -1);
        s.due("others", s.x.fault(-1), -1);
        s.none("the tape is empty", s.x.world(1), 1);
        s.due("a call with 1 leaves what fault tells", s.x.fault(0), 0);
        s.fine("told", s.x.told(2), 1);
        s.fine("none at all", s.x.world(0), 0);
        s.fine("told", s.x.told(2), 0);
        s.fine("no blanks are needed", s.world("port p;port q;way p q days3;ship s at p hold5coins7;"), 1);
        s.fine("days", s.x.way(0, 1), 3);
        s.fine("coins", s.x.ship(0, 4), 7);
        s.fine("blanks anywhere", s.world(" \n port \n p ; \n\n"), 0);
        s.fine("four ships", s.world("port p;ship a at p hold 1;ship b at p hold 1;ship c at p hold 1;ship d at p hold 1;"), 4);
        s.fine("day", s.x.day(5), 0);
        s.fine("a new world", s.world("port p;"), 0);
        s.fine("is of day 0", s.x.told(5), 0);
    }

    private static void tokens() {
        Sea s = new Sea("tokens");
        s.badWorld("#", 1, 0);
        s.badWorld("  \0", 1, 2);
        s.badWorld("\t", 1, 0);
        s.badWorld("Port p;", 1, 0);
        s.badWorld("port p;\u00ff", 1, 7);
        s.badWorld("port p\u00e9;", 1, 6);
        s.badWorld("nation n wage 12345;", 1, 14);
        s.badWorld("nation n wage 00001;", 1, 14);
        s.badWorld("12345", 1, 0);
        s.fine("four digits", s.world("nation n wage 0012;"), 0);
        s.fine("wage", s.x.nation(0, 0), 12);
        s.badWorld("nation n wage -1;", 1, 14);
    }

    private static void outOfPlace() {
        Sea s = new Sea("out of place");
        s.badWorld("p", 2, 0);
        s.badWorld(";", 2, 0);
        s.badWorld("5", 2, 0);
        s.badWorld("abcdefghijkl", 2, 0);
        s.badWorld("port", 2, 4);
        s.badWorld("port \n ", 2, 7);
        s.badWorld("port p", 2, 6);
        s.badWorld("port p  ", 2, 8);
        s.badWorld("port 5;", 2, 5);
        s.badWorld("port ;", 2, 5);
        s.badWorld("port p port q;", 2, 7);
        s.badWorld("port p q;", 2, 7);
        s.badWorld("port p <", 2, 7);
        s.badWorld("port abcdefghi;", 2, 5);
        s.fine("eight letters", s.world("port abcdefgh;"), 0);
        s.badWorld("port p;way p abcdefghi", 2, 13);
        s.badWorld("nation n duty 1 wage 1;", 2, 16);
        s.badWorld("nation n deeds 1 duty 1;", 2, 17);
        s.badWorld("nation n wage x;", 2, 14);
        s.badWorld("nation n wage;", 2, 13);
        s.badWorld("nation n;good g n worth 1;", 2, 16);
        s.badWorld("nation n;good g of n 1;", 2, 21);
        s.badWorld("nation n;good g of n worth leaks 1;", 2, 27);
        s.badWorld("port p;ship s p hold 1;", 2, 14);
        s.badWorld("port p;ship s at p 1;", 2, 19);
        s.badWorld("port p;ship s at p hold coins 1;", 2, 24);
        s.badWorld("port a;port b;way a b 1;", 2, 22);
        s.badWorld("day 1;", 2, 0);
        s.badWorld("rule ;", 2, 5);
        String[] words = ("nation wage duty deeds war good of worth leaks port price way days ship at hold coins aboard"
            + " rule day buy sell dump sail any when ruled in loop end stop").split(" ");
        s.due("words", words.length, 31);
        for (String w : words) {
            s.badWorld("port " + w + ";", 2, 5);
            s.fine("a letter more", s.world("port " + w + "x;"), 0);
        }
    }

    private static void names() {
        Sea s = new Sea("names");
        String all = "nation n;good g of n worth 1;port p;ship s at p hold 9;";
        int l = all.length();
        s.fine("all", s.world(all), 1);
        for (char c : "ngps".toCharArray()) {
            s.badWorld(all + "nation " + c + ";", 3, l + 7);
            s.badWorld(all + "good " + c + " of n worth 1;", 3, l + 5);
            s.badWorld(all + "port " + c + ";", 3, l + 5);
            s.badWorld(all + "ship " + c + " at p hold 1;", 3, l + 5);
        }
        for (char c : "gpsx".toCharArray()) {
            s.badWorld(all + "war " + c + " n;", 3, l + 4);
            s.badWorld(all + "war n " + c + ";", 3, l + 6);
            s.badWorld(all + "good h of " + c + " worth 1;", 3, l + 10);
            s.badWorld(all + "port q of " + c + ";", 3, l + 10);
        }
        for (char c : "ngsx".toCharArray()) {
            s.badWorld(all + "price " + c + " g 1;", 3, l + 6);
            s.badWorld(all + "way " + c + " p days 1;", 3, l + 4);
            s.badWorld(all + "way p " + c + " days 1;", 3, l + 6);
            s.badWorld(all + "ship t at " + c + " hold 1;", 3, l + 10);
        }
        for (char c : "npsx".toCharArray()) {
            s.badWorld(all + "price p " + c + " 1;", 3, l + 8);
            s.badWorld(all + "aboard s " + c + " 1;", 3, l + 9);
        }
        for (char c : "ngpx".toCharArray()) {
            s.badWorld(all + "aboard " + c + " g 1;", 3, l + 7);
        }
        s.badWorld("port q of q;", 3, 10);
        s.badWorld("ship s at p hold 1;port p;", 3, 10);
        s.fine("longer ones are others", s.world("port a;port aa;port aaaaaaaa;port ab;port b;"), 0);
        s.fine("ports", s.x.told(2), 5);
    }

    private static void numbers() {
        Sea s = new Sea("numbers");
        String[][] edges = {
            {"nation n wage ", "0", "20", "21", ""},
            {"nation n duty ", "0", "9", "10", ""},
            {"nation n deeds ", "0", "255", "256", ""},
            {"nation n;good g of n worth ", "1", "99", "100", "0"},
            {"nation n;good g of n worth 1 leaks ", "0", "9", "10", ""},
            {"nation n;port p;good g of n worth 1;price p g ", "1", "99", "100", "0"},
            {"port p;port q;way p q days ", "1", "20", "21", "0"},
            {"port p;ship s at p hold ", "1", "60", "61", "0"},
            {"port p;ship s at p hold 1 coins ", "0", "9999", "", ""},
            {"nation n;port p;good g of n worth 1;ship s at p hold 60;aboard s g ", "1", "60", "61", "0"},
            {"nation n;port p;good g of n worth 1;ship s at p hold 7;aboard s g ", "1", "7", "8", "0"},
            {"nation n;port p;good g of n worth 1;ship s at p hold 7;aboard s g 5;aboard s g ", "1", "2", "3", "0"},
            {"rule ", "0", "2", "3", ""},
        };
        for (String[] e : edges) {
            for (int i = 1; i <= 2; i++) {
                s.due(e[0] + e[i], s.world(e[0] + e[i] + ";") >= 0, true);
                s.due("status", s.x.status(), 0);
            }
            for (int i = 3; i <= 4; i++) {
                if (!e[i].isEmpty()) {
                    s.badWorld(e[0] + e[i] + ";", 4, e[0].length());
                }
            }
        }
        String full = "nation n;port p;good g of n worth 1;good h of n worth 1;ship s at p hold 5;aboard s g 3;aboard s h 2;";
        s.fine("full", s.world(full), 1);
        s.badWorld(full + "aboard s h 1;", 4, full.length() + 11);
    }

    private static void twice() {
        Sea s = new Sea("twice");
        s.badWorld("nation n;war n n;", 5, 15);
        s.badWorld("port p;way p p days 1;", 5, 13);
        s.badWorld("rule 1;rule 1;", 5, 7);
        s.badWorld("rule 0;rule", 5, 7);
        s.fine("war told again", s.world("nation a;nation b;war a b;war b a;war a b;"), 0);
        s.fine("war", s.x.nation(0, 3), 2);
        s.fine("the latest price", s.world("nation n;good g of n worth 1;port p;price p g 4;price p g 7;"), 0);
        s.fine("price", s.x.price(0, 0), 7);
        s.fine("the latest way", s.world("port p;port q;way p q days 4;way q p days 6;"), 0);
        s.fine("way", s.x.way(0, 1), 6);
        s.fine("more aboard", s.world("nation n;good g of n worth 1;port p;ship s at p hold 9;aboard s g 4;aboard s g 5;"), 1);
        s.fine("aboard", s.x.aboard(0, 0), 9);
    }

    private static void oneMore() {
        Sea s = new Sea("one more");
        StringBuilder t = new StringBuilder();
        for (int i = 0; i < 6; i++) {
            t.append("nation n").append((char) ('a' + i)).append(';');
        }
        s.fine("six nations", s.world(t.toString()), 0);
        s.badWorld(t + "nation", 6, t.length());
        s.badWorld(t + "nation na;", 6, t.length());
        t.setLength(0);
        t.append("nation n;");
        for (int i = 0; i < 8; i++) {
            t.append("good g").append((char) ('a' + i)).append(" of n worth 1;");
        }
        s.fine("eight goods", s.world(t.toString()), 0);
        s.badWorld(t + "good x of n worth 1;", 6, t.length());
        t.setLength(0);
        for (int i = 0; i < 6; i++) {
            t.append("port p").append((char) ('a' + i)).append(';');
        }
        s.fine("six ports", s.world(t.toString()), 0);
        s.badWorld(t + " port x;", 6, t.length() + 1);
        for (int i = 0; i < 4; i++) {
            t.append("ship s").append((char) ('a' + i)).append(" at pa hold 1;");
        }
        s.fine("four ships", s.world(t.toString()), 4);
        s.badWorld(t + "ship x at pa hold 1;", 6, t.length());
    }

    /** As many of all things as there can be: every call reaches the last of each. */
    private static void fullWorld() {
        StringBuilder t = new StringBuilder();
        for (int i = 0; i < 6; i++) {
            t.append("nation n").append((char) ('a' + i)).append(" wage ").append(i).append(";port p").append((char) ('a' + i)).append(";");
        }
        for (int i = 0; i < 8; i++) {
            t.append("good g").append((char) ('a' + i)).append(" of n").append((char) ('a' + i % 6)).append(" worth ").append(i + 1).append(" leaks 1;");
        }
        for (int i = 0; i < 4; i++) {
            t.append("ship s").append((char) ('a' + i)).append(" at p").append((char) ('a' + i)).append(" hold 60;");
            t.append("aboard s").append((char) ('a' + i)).append(" gh ").append(4 + i).append(";");
        }
        t.append("war na nf;war nb nf;way pa pf days 1;way pf pd days 2;price pd gh 3;price pf gh 9;");
        Sea s = new Sea("full world");
        s.fine("world", s.world(t.toString()), 4);
        s.fine("tons", s.x.told(8), 22);
        s.fine("coins", s.x.told(9), 400);
        s.fine("lawless", s.x.told(7), 0);
        s.fine("ruled", s.x.ruled(3), 1);
        s.fine("share", s.x.share(3, 1));
        s.fraction("share", 1, 1);
        s.fine("deeds", s.x.deeds(3), 0);
        s.fine("boarders", s.x.boarders(3), 0);
        s.fine("greatest", s.x.greatest(1), 3);
        s.fine("best", s.x.best(3, 5), 7);
        s.fine("soonest", s.x.soonest(0, 3), 3);
        s.fine("next", s.x.next(3, 0), 5);
        s.fine("reach", s.x.reach(5), 41);
        // Seven tons sold at 3, forty bought; 38 of them sold at 9; back; 60 bought, two wages, 58 sold.
        s.fine("voyage", s.x.voyage(3, 3), 38 * 9 - 60 * 3 - 2 + 58 * 9);
        s.fine("passFor", s.x.passFor(3, 5), 8);
        s.fine("stowaway", s.x.stowaway(3), 7);
        s.fine("guard", s.x.guard(3, 6), 1);
        s.fine("flagIn", s.x.flagIn(3, 6), 1);
        s.fine("turns", s.x.turns(3), 7);
        s.none("peace", s.x.peace(3), 6);
        s.fine("war", s.x.nation(5, 3), 3);
        s.x.sail(3, 5);
        s.fine("day", s.x.day(2), 8);
        s.fine("at sea", s.x.told(6), 0);
    }

    private static void firstAlongTheText() {
        Sea s = new Sea("first along the text");
        s.badWorld("nation n wage 21 #", 4, 14);
        s.badWorld("nation n wage 21 12345", 4, 14);
        s.badWorld("nation n;war n x 5", 3, 15);
        s.badWorld("port p p #", 2, 7);
        s.badWorld("port day #", 2, 5);
        // Of the second NAME 3 (no nation) is less than 5.
        s.badWorld("port p;war p p;", 3, 11);
    }

    private static void oldWorldStays() {
        Sea s = Sea.of("old world");
        s.goodVoyages("day 2;stop;", 2);
        s.x.day(3);
        s.x.sail(0, 1);
        s.x.rule(2);
        String was = s.all();
        s.badWorld("nation n;port p;rule 1;ship s at p hold 3;aboard s", 2, 50);
        s.same("stays", s.all(), was);
        s.fine("voyages stay", s.x.live(0), 2);
        s.none("the tape is empty", s.x.world(1), 1);
        s.fine("a new world", s.world("port p;"), 0);
        s.none("has no voyages", s.x.live(0), 6);
        s.fine("rule 0", s.x.told(4), 0);
        s.fine("no nations", s.x.told(0), 0);
    }

    private static void told() {
        Sea s = Sea.of("told");
        int[] due = {3, 4, 4, 3, 0, 0, 0, 4, 10, 10139};
        for (int w = 0; w < 10; w++) {
            s.fine("told " + w, s.x.told(w), due[w]);
        }
        s.none("what 10", s.x.told(10), 1);
        s.none("what -1", s.x.told(-1), 1);
        s.x.rule(1);
        s.fine("rule", s.x.told(4), 1);
        s.fine("lawless by kinds: one of each", s.x.told(7), 5);
        s.x.sail(0, 1);
        s.x.sail(2, 1);
        s.fine("at sea", s.x.told(6), 5);
        s.x.day(1);
        s.fine("day", s.x.told(5), 1);
        s.fine("tons", s.x.told(8), 10 - 1 - 2 - 2);
        s.fine("rule of a text", s.world("rule 2;"), 0);
        s.fine("told", s.x.told(4), 2);
    }

    private static void nationsAndGoods() {
        Sea s = Sea.of("nations and goods");
        int[][] nations = {{3, 2, 5, 2}, {2, 1, 6, 1}, {1, 0, 0, 0}};
        for (int n = 0; n < 3; n++) {
            for (int w = 0; w < 4; w++) {
                s.fine("nation " + n + " " + w, s.x.nation(n, w), nations[n][w]);
            }
        }
        s.none("nation 3", s.x.nation(3, 0), 1);
        s.none("nation -1", s.x.nation(-1, 0), 1);
        s.none("what 4", s.x.nation(0, 4), 1);
        s.none("what -1", s.x.nation(0, -1), 1);
        int[][] goods = {{0, 10, 1}, {1, 4, 2}, {0, 3, 0}, {2, 7, 0}};
        for (int g = 0; g < 4; g++) {
            for (int w = 0; w < 3; w++) {
                s.fine("good " + g + " " + w, s.x.good(g, w), goods[g][w]);
            }
        }
        s.none("good 4", s.x.good(4, 0), 1);
        s.none("good -1", s.x.good(-1, 0), 1);
        s.none("what 3", s.x.good(0, 3), 1);
        s.none("what -1", s.x.good(0, -1), 1);
    }

    private static void portsAndWays() {
        Sea s = Sea.of("ports and ways");
        s.fine("ash", s.x.portOf(0), 0);
        s.fine("bay", s.x.portOf(1), 1);
        s.none("cay", s.x.portOf(2), 6);
        s.fine("dun", s.x.portOf(3), 2);
        s.none("port 4", s.x.portOf(4), 1);
        s.none("port -1", s.x.portOf(-1), 1);
        s.fine("price", s.x.price(1, 0), 9);
        s.fine("price", s.x.price(2, 3), 4);
        s.none("not traded", s.x.price(2, 0), 6);
        s.none("no port", s.x.price(4, 0), 1);
        s.none("no good", s.x.price(0, 4), 1);
        s.none("no good", s.x.price(0, -1), 1);
        s.fine("way", s.x.way(0, 1), 2);
        s.fine("both ways", s.x.way(2, 1), 3);
        s.none("none", s.x.way(0, 2), 6);
        s.none("itself", s.x.way(1, 1), 1);
        s.none("no port", s.x.way(0, 4), 1);
        s.none("no port", s.x.way(-1, 0), 1);
    }

    private static void ships() {
        Sea s = Sea.of("ships");
        s.fine("lies", s.x.ship(1, 0), 1);
        s.none("sails nowhere", s.x.ship(1, 1), 6);
        s.fine("nothing to go", s.x.ship(1, 2), 0);
        s.fine("hold", s.x.ship(1, 3), 20);
        s.fine("coins without", s.x.ship(1, 4), 100);
        s.fine("tons", s.x.ship(1, 5), 5);
        s.fine("unpaid", s.x.ship(1, 6), 0);
        s.fine("duties", s.x.ship(1, 7), 0);
        s.none("what 8", s.x.ship(1, 8), 1);
        s.none("what -1", s.x.ship(1, -1), 1);
        s.none("no ship", s.x.ship(3, 0), 1);
        s.none("no ship", s.x.ship(-1, 0), 1);
        s.x.sail(1, 2);
        s.none("at sea", s.x.ship(1, 0), 6);
        s.fine("sails to", s.x.ship(1, 1), 2);
        s.fine("to go", s.x.ship(1, 2), 3);
        s.fine("aboard", s.x.aboard(0, 1), 3);
        s.fine("aboard none", s.x.aboard(0, 3), 0);
        s.none("no ship", s.x.aboard(3, 0), 1);
        s.none("no good", s.x.aboard(0, 4), 1);
        s.none("no good", s.x.aboard(0, -1), 1);
    }
}
