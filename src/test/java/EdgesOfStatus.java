/** The sentences of the document on STATUS: ==== 5. */
final class EdgesOfStatus {
    private EdgesOfStatus() {
    }

    static void tell(Sentences d) {
        d.term("STATUS of a call is the first of these that holds", EdgesOfStatus::theFirstThatHolds);
        d.term("1 a number that can't be; no such TRAY, NATION, GOOD, PORT, SHIP", s -> allWith(1, 59));
        d.term("2 the TRAY is MISSING", s -> allWith(2, 6));
        d.term("3 a place that the TRAY has not, or too few numbers", s -> allWith(3, 6));
        d.term("4 one too many", s -> allWith(4, 1));
        d.term("5 a number in a TRAY that can't be", s -> allWith(5, 2));
        d.term("6 there is none such", s -> allWith(6, 21));
        d.term("7 it can't be", s -> allWith(7, 11));
        d.term("8 TRAYS are of unlike sorts", s -> allWith(8, 1));
        d.term("9 a FAULT", s -> allWith(9, 2));
        d.term("0 else", EdgesOfStatus::elseNone);
        d.term("With another STATUS than 0 a call gives NONE, or false, and changes nothing else "
            + "(but world(), voyages() with 9 the tape, and what fault() tells)", EdgesOfStatus::changesNothing);
        d.term("status(), top(), bottom(), feed(), fault() have none", EdgesOfStatus::haveNone);
    }

    private static void theFirstThatHolds(Sea s) {
        s.none("1 ahead of 2", s.x.log(0, 0, 2), 1);
        s.none("1 ahead of 2", s.x.sure(0, 1, 61), 1);
        s.none("1 ahead of 2", s.x.copyLog(0, 0, 1), 1);
        s.none("1 ahead of 6", s.x.live(-1), 1);
        s.none("1 ahead of 6", s.x.lived(-1), 1);
        s.no("1 ahead of 6", s.x.mean(9999, 2), 1);
        s.world(Sea.WORLD);
        s.none("2 ahead of 3", s.x.copyLog(0, 0, 20), 2);
        s.x.tray(0, 0, 1);
        s.x.write(0, 0, 77);
        s.none("1 ahead of 3", s.x.log(0, 21, 2), 1);
        s.none("3 ahead of 5", s.x.log(0, 2, 2), 3);
        s.none("3 ahead of 5", s.x.sure(0, 2, 2), 3);
        s.none("5 ahead of 6", s.x.sure(0, 1, 2), 5);
        s.x.sail(0, 1);
        s.none("1 ahead of 7", s.x.buy(0, 0, 61), 1);
        s.none("1 ahead of 7", s.x.sell(0, 4, 1), 1);
        s.none("1 ahead of 7", s.x.sail(0, -1), 1);
        s.no("1 ahead of 7", s.x.pass(0, 1, 0, 0), 1);
        s.none("1 ahead of 7", s.x.voyage(0, 0), 1);
        s.none("1 ahead of 7", s.x.voyageAt(0, 1, 2), 1);
        for (int i = 0; i < 101; i++) {
            s.x.day(99);
        }
        s.none("1 ahead of 4", s.x.day(100), 1);
        s.none("1 ahead of 4", s.x.day(0), 1);
        s.none("4", s.x.day(99), 4);
    }

    private static void allWith(int status, int due) {
        int many = 0;
        Sea s = null;
        for (Refused r : Refused.ALL) {
            if (r.status == status) {
                s = Refused.sea("status " + status);
                s.none(r.call, r.answer(s), status);
                many++;
            }
        }
        s.due("so many calls", many, due);
    }

    private static void elseNone(Sea s) {
        for (Refused r : Refused.ALL) {
            Sea t = Refused.sea("behind " + r.call);
            r.answer(t);
            t.fine("told", t.x.told(0), 3);
        }
        s.fine("-1 with 0", s.x.tray(0, 0, 1));
        s.x.write(0, 0, -1);
        s.fine("-1 with 0", s.x.read(0, 0), -1);
        s.world("port p;port q;way p q days 1;ship a at p hold 1;");
        s.fine("nothing is bought: NONE with 0", s.x.voyageAt(0, 1, 1), -1);
    }

    private static String rest(Sea s) {
        StringBuilder t = new StringBuilder();
        for (int place = 0; place < 4; place++) {
            t.append(s.x.read(0, place)).append(' ').append(s.x.read(1, place)).append(' ');
        }
        t.append(s.x.read(2, 0)).append(s.x.status()).append(s.x.read(3, 0)).append(s.x.status());
        return t.append(s.x.top()).append('/').append(s.x.bottom()).append(s.x.live(0)).append(s.x.lived(0)).toString();
    }

    private static void changesNothing(Sea s) {
        for (Refused r : Refused.ALL) {
            Sea t = Refused.sea("refused " + r.call + " by " + r.status);
            String was = t.all() + rest(t);
            t.none(r.call, r.answer(t), r.status);
            t.same(r.call, t.all() + rest(t), was);
            t.due("the tape", t.x.feed(0, 0, 0, 0, 0), r.status == 9 ? 20 : 40);
            t.due("the fault", t.x.fault(0), r.status == 9 ? 2 : 0);
            t.due("its place", t.x.fault(1), r.status == 9 ? (r.call.equals("world") ? 7 : 0) : -1);
            t.fine("the marks", t.x.undo(), 2);
        }
    }

    private static void haveNone(Sea s) {
        s.none("missing", s.x.read(0, 0), 2);
        s.due("status", s.x.status(), 2);
        s.due("top", s.x.top(), 0);
        s.due("bottom", s.x.bottom(), 1);
        s.due("fault", s.x.fault(0), -1);
        s.due("fault", s.x.fault(2), -1);
        for (int i = 0; i < 45; i++) {
            s.x.feed(0, 0, 0, 0, 0);
        }
        s.due("feed", s.x.feed(0, 0, 0, 0, 0), -1);
        s.due("still", s.x.status(), 2);
    }
}
