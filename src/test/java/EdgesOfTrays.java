/** The sentences of the document on trays: promises 1 to 8. */
final class EdgesOfTrays {
    private EdgesOfTrays() {
    }

    static void tell(Sentences d) {
        d.term("An object is used for at most 512 calls after it has been made", EdgesOfTrays::the512thCall);
        d.term("TRAYS 0 to 3 are MISSING at first, or rows of 0 to 60 numbers", EdgesOfTrays::rows);
        d.term("numbers of 8 bits (sort 0), 16 (1), 32 (2) or 64 (3)", EdgesOfTrays::bits);
        d.term("The constants: `NONE = -1`: None", s -> s.due("NONE", CargoFlag.NONE, -1));
        d.promise(1, "A WORLD of no NATIONS, GOODS, PORTS, SHIPS; RULE 0; DAY 0", EdgesOfTrays::newWorld);
        d.promise(1, "no VOYAGES, MARKS; TRAYS are MISSING; an empty tape; the FRACTION 0 by 1; STATUS 0", EdgesOfTrays::newRest);
        d.promise(2, "STATUS of the latest call that has one", EdgesOfTrays::status);
        d.promise(3, "The top of the FRACTION told latest", EdgesOfTrays::top);
        d.promise(4, "Its bottom, above 0", EdgesOfTrays::bottom);
        d.promise(5, "A TRAY is a row of so many 0s (1)", EdgesOfTrays::tray);
        d.promise(6, "A number comes to a place of a TRAY, cut to its sort (1, 2, 3)", EdgesOfTrays::write);
        d.promise(7, "The number in a place of a TRAY; STATUS tells NONE from -1 (1, 2, 3)", EdgesOfTrays::read);
        d.promise(8, "come to another one's (or its own) place on, as they were", EdgesOfTrays::pourIntoItself);
        d.promise(8, "(1: below 0, too; 2; 8; 3; asked in this order)", EdgesOfTrays::pourInThisOrder);
        d.promise(8, "So many numbers of a TRAY, from a place on", EdgesOfTrays::pourPlaces);
    }

    private static void the512thCall(Sea s) {
        s.due("1", s.x.tray(0, 3, 60), true);
        for (int i = 0; i < 509; i++) {
            s.due("2 to 510", s.x.write(0, i % 60, i), true);
        }
        s.due("511", s.x.read(0, 508 % 60), 508);
        s.due("512", s.x.status(), 0);
    }

    private static void rows(Sea s) {
        for (int t = 0; t < 4; t++) {
            s.none("missing", s.x.read(t, 0), 2);
            s.fine("a row of 0", s.x.tray(t, 0, 0));
            s.none("has no place", s.x.read(t, 0), 3);
            s.fine("a row of 60", s.x.tray(t, 0, 60));
            s.fine("the first", s.x.read(t, 0), 0);
            s.fine("the last", s.x.read(t, 59), 0);
            s.none("behind it", s.x.read(t, 60), 3);
            s.no("61", s.x.tray(t, 0, 61), 1);
            s.no("-1", s.x.tray(t, 0, -1), 1);
        }
        s.none("tray -1", s.x.read(-1, 0), 1);
        s.none("tray 4", s.x.read(4, 0), 1);
    }

    private static void bits(Sea s) {
        for (int sort = 0; sort < 3; sort++) {
            long half = 1L << ((8 << sort) - 1);
            s.x.tray(sort, sort, 1);
            long[][] cut = {{half - 1, half - 1}, {half, -half}, {2 * half - 1, -1}, {2 * half, 0}, {2 * half + 1, 1}, {-half, -half},
                {-half - 1, half - 1}, {-1, -1}, {Long.MIN_VALUE, 0}, {Long.MAX_VALUE, -1}};
            for (long[] c : cut) {
                s.fine("write " + c[0] + " by sort " + sort, s.x.write(sort, 0, c[0]));
                s.fine("read", s.x.read(sort, 0), c[1]);
            }
        }
        s.x.tray(3, 3, 1);
        for (long v : new long[] {Long.MAX_VALUE, Long.MIN_VALUE, -1, 0}) {
            s.fine("write " + v, s.x.write(3, 0, v));
            s.fine("read", s.x.read(3, 0), v);
        }
    }

    private static void newWorld(Sea s) {
        for (int what = 0; what < 10; what++) {
            s.fine("told " + what, s.x.told(what), 0);
        }
        s.none("no nation", s.x.nation(0, 0), 1);
        s.none("no good", s.x.good(0, 0), 1);
        s.none("no port", s.x.portOf(0), 1);
        s.none("no ship", s.x.ship(0, 0), 1);
        s.none("no port", s.x.reach(0), 1);
        s.none("no nation", s.x.greatest(0), 1);
        s.fine("days go by", s.x.day(99), 0);
    }

    private static void newRest(Sea s) {
        s.due("status", s.x.status(), 0);
        s.fraction("at first", 0, 1);
        s.none("no voyages", s.x.live(0), 6);
        s.no("no voyages", s.x.mean(0, 1), 6);
        s.none("not lived", s.x.lived(0), 6);
        s.none("no marks", s.x.undo(), 6);
        s.fine("the first mark", s.x.mark(), 1);
        for (int t = 0; t < 4; t++) {
            s.no("missing", s.x.write(t, 0, 1), 2);
        }
        s.none("an empty tape", s.x.world(1), 1);
        s.none("an empty tape", s.x.voyages(1), 1);
        s.due("no fault told", s.x.fault(0), -1);
        s.due("the first twenty", s.x.feed(0, 0, 0, 0, 0), 20);
    }

    private static void status(Sea s) {
        int[] due = {1, 2, 3, 4, 5, 6, 7, 8, 9, 0};
        Sea t = Refused.sea("status");
        for (int want : due) {
            Refused.one(t, want);
            t.due("status", t.x.status(), want);
            t.x.top();
            t.x.bottom();
            t.x.fault(0);
            t.x.fault(9);
            t.x.feed(0, 0, 0, 0, 0);
            t.due("those that have none leave it", t.x.status(), want);
            t.due("and so does status itself", t.x.status(), want);
        }
    }

    private static void top(Sea s) {
        s.world(Sea.WORLD);
        s.due("at first", s.x.top(), 0);
        s.fine("share", s.x.share(0, 0));
        s.due("2 by 5", s.x.top(), 2);
        s.no("a refused one tells none", s.x.share(2, 0), 6);
        s.due("the latest", s.x.top(), 2);
        s.goodVoyages("day 1;", 1);
        s.fine("mean", s.x.mean(0, 20));
        s.due("all coins", s.x.top(), 10139);
    }

    private static void bottom(Sea s) {
        s.world(Sea.WORLD);
        s.due("at first", s.x.bottom(), 1);
        s.fine("share", s.x.share(0, 1));
        s.due("3 by 5", s.x.bottom(), 5);
        s.no("a refused one tells none", s.x.share(2, 0), 6);
        s.due("the latest", s.x.bottom(), 5);
        s.fine("of none: 0 by 1", s.x.share(0, 2));
        s.due("above 0", s.x.bottom(), 1);
    }

    private static void tray(Sea s) {
        for (int v : new int[] {-1, 4, Integer.MIN_VALUE, Integer.MAX_VALUE}) {
            s.no("tray " + v, s.x.tray(v, 0, 1), 1);
            s.no("sort " + v, s.x.tray(0, v, 1), 1);
        }
        for (int v : new int[] {-1, 61, Integer.MIN_VALUE, Integer.MAX_VALUE}) {
            s.no("many " + v, s.x.tray(0, 0, v), 1);
        }
        s.none("a refused one leaves it missing", s.x.read(0, 0), 2);
        s.fine("60", s.x.tray(0, 3, 60));
        s.x.write(0, 0, 300);
        s.x.write(0, 59, 7);
        s.no("refused", s.x.tray(0, 0, 61), 1);
        s.fine("a refused one leaves the row", s.x.read(0, 59), 7);
        s.fine("and its numbers", s.x.read(0, 0), 300);
        s.fine("anew", s.x.tray(0, 3, 60));
        s.fine("0s", s.x.read(0, 0), 0);
        s.fine("0s to the last", s.x.read(0, 59), 0);
        s.fine("fewer", s.x.tray(0, 3, 1));
        s.none("the rest is gone", s.x.read(0, 1), 3);
    }

    private static void write(Sea s) {
        s.no("no tray", s.x.write(-1, 0, 1), 1);
        s.no("no tray", s.x.write(4, 0, 1), 1);
        s.no("no tray, ahead of the place", s.x.write(4, -1, 1), 1);
        s.no("missing, ahead of the place", s.x.write(0, -1, 1), 2);
        s.x.tray(0, 0, 2);
        s.no("place -1", s.x.write(0, -1, 1), 3);
        s.no("place 2", s.x.write(0, 2, 1), 3);
        s.no("far", s.x.write(0, Integer.MAX_VALUE, 1), 3);
        s.no("far", s.x.write(0, Integer.MIN_VALUE, 1), 3);
        s.fine("nothing came", s.x.read(0, 0), 0);
        s.fine("nothing came", s.x.read(0, 1), 0);
        s.fine("the last place", s.x.write(0, 1, 128));
        s.fine("cut", s.x.read(0, 1), -128);
        s.fine("the other stays", s.x.read(0, 0), 0);
    }

    private static void read(Sea s) {
        s.none("no tray", s.x.read(-1, 0), 1);
        s.none("no tray", s.x.read(4, 0), 1);
        s.none("no tray, ahead of the place", s.x.read(4, 99), 1);
        s.none("missing, ahead of the place", s.x.read(3, 99), 2);
        s.x.tray(3, 0, 2);
        s.x.write(3, 1, 255);
        s.fine("-1 by STATUS 0", s.x.read(3, 1), -1);
        s.none("place 2", s.x.read(3, 2), 3);
        s.none("place -1", s.x.read(3, -1), 3);
        s.none("far", s.x.read(3, Integer.MIN_VALUE), 3);
    }

    private static void pourIntoItself(Sea s) {
        for (int shift = -2; shift <= 2; shift++) {
            s.x.tray(1, 1, 6);
            for (int i = 0; i < 6; i++) {
                s.x.write(1, i, 10 + i);
            }
            int from = Math.max(0, -shift);
            int to = Math.max(0, shift);
            int many = 6 - Math.abs(shift);
            s.fine("by " + shift, s.x.pour(1, from, 1, to, many));
            for (int i = 0; i < 6; i++) {
                boolean came = i >= to && i < to + many;
                s.fine("place " + i + " by " + shift, s.x.read(1, i), came ? 10 + i - shift : 10 + i);
            }
        }
    }

    private static void pourInThisOrder(Sea s) {
        s.no("no tray, ahead of missing", s.x.pour(4, 0, 0, 0, 1), 1);
        s.no("no tray, ahead of missing", s.x.pour(0, 0, -1, 0, 1), 1);
        s.no("many below 0, ahead of missing", s.x.pour(0, 0, 1, 0, -1), 1);
        s.no("place below 0, ahead of missing", s.x.pour(0, -1, 1, 0, 1), 1);
        s.no("at below 0, ahead of missing", s.x.pour(0, 0, 1, -1, 1), 1);
        s.no("both missing", s.x.pour(0, 0, 1, 0, 1), 2);
        s.x.tray(0, 0, 2);
        s.no("to missing, ahead of places", s.x.pour(0, 9, 1, 9, 9), 2);
        s.no("from missing, ahead of places", s.x.pour(1, 9, 0, 9, 9), 2);
        s.x.tray(1, 1, 2);
        s.no("many below 0, ahead of sorts", s.x.pour(0, 0, 1, 0, -1), 1);
        s.no("sorts, ahead of places", s.x.pour(0, 9, 1, 9, 9), 8);
        s.no("sorts, of no number even", s.x.pour(0, 0, 1, 0, 0), 8);
        s.x.tray(1, 0, 2);
        s.no("places", s.x.pour(0, 9, 1, 9, 9), 3);
        s.no("many below 0, ahead of places", s.x.pour(0, 9, 1, 9, -1), 1);
    }

    private static void pourPlaces(Sea s) {
        s.x.tray(0, 3, 60);
        s.x.tray(1, 3, 60);
        s.x.tray(2, 3, 0);
        s.x.write(0, 0, 5);
        s.x.write(0, 59, -6);
        s.no("61", s.x.pour(0, 0, 1, 0, 61), 3);
        s.no("from 1: 60", s.x.pour(0, 1, 1, 0, 60), 3);
        s.no("at 1: 60", s.x.pour(0, 0, 1, 1, 60), 3);
        s.no("from 60: 1", s.x.pour(0, 60, 1, 0, 1), 3);
        s.no("at 60: 1", s.x.pour(0, 0, 1, 60, 1), 3);
        s.no("from 61: none", s.x.pour(0, 61, 1, 0, 0), 3);
        s.no("at 61: none", s.x.pour(0, 0, 1, 61, 0), 3);
        s.no("sums that wrap around", s.x.pour(0, Integer.MAX_VALUE, 1, 0, Integer.MAX_VALUE), 3);
        s.no("sums that wrap around", s.x.pour(0, 1, 1, 0, Integer.MAX_VALUE), 3);
        s.no("sums that wrap around", s.x.pour(0, 0, 1, Integer.MAX_VALUE, 2), 3);
        s.fine("nothing came", s.x.read(1, 0), 0);
        s.fine("none from the end", s.x.pour(0, 60, 1, 60, 0));
        s.fine("none of an empty one", s.x.pour(2, 0, 1, 0, 0));
        s.no("one of an empty one", s.x.pour(2, 0, 1, 0, 1), 3);
        s.fine("nothing came", s.x.read(1, 0), 0);
        s.fine("all 60", s.x.pour(0, 0, 1, 0, 60));
        s.fine("the first", s.x.read(1, 0), 5);
        s.fine("the last", s.x.read(1, 59), -6);
        s.fine("from stays", s.x.read(0, 59), -6);
        s.fine("the last alone", s.x.pour(0, 59, 1, 0, 1));
        s.fine("came", s.x.read(1, 0), -6);
        s.fine("the others stay", s.x.read(1, 1), 0);
    }
}
