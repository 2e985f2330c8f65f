/** Promises 60 to 62: what was aboard by the flags seen. */
public final class LogsTest {
    public static void main(String[] args) {
        log();
        edges();
        byRule();
        copyLog();
        Sea.end("LogsTest");
    }

    private static void tell(Sea s, int tray, long... flags) {
        s.x.tray(tray, 2, flags.length);
        for (int i = 0; i < flags.length; i++) {
            s.x.write(tray, i, flags[i]);
        }
    }

    private static void log() {
        Sea s = new Sea("log");
        s.world("nation a;nation b;good g of a worth 1 leaks 1;good h of b worth 3 leaks 2;");
        tell(s, 0, 1, 0);
        // y > x on day 0; x - 1 > y - 2 on day 1: y = x + 0 .. no: y < x + 1 and y > x can't be, but for what is gone.
        s.fine("no way by 4", s.x.log(0, 2, 4), 0);
        s.none("sure", s.x.sure(0, 2, 4), 6);
        tell(s, 0, 1, -1);
        // y = x + 1 (x - 1 = y - 2), or both gone: x 1 and y 2 is among these.
        s.fine("1+2, 2+3, 3+4", s.x.log(0, 2, 7), 3);
        s.fine("both", s.x.sure(0, 2, 7), 3);
        tell(s, 0, 0);
        // x > y: 2+1, 3+1, 4+1, 3+2.
        s.fine("one day", s.x.log(0, 1, 5), 4);
        tell(s, 0, -1);
        s.fine("1+1, 2+2", s.x.log(0, 1, 5), 2);
        s.fine("1+1", s.x.log(0, 1, 2), 1);
        s.x.tray(1, 0, 20);
        s.world("nation a;good g of a worth 1;good h of a worth 1;good i of a worth 1;");
        s.fine("three pairs of 1770", s.x.log(1, 20, 60), 5310);
        s.fine("none is in all", s.x.sure(1, 20, 60), 0);
        s.world("nation a;nation b;good g of a worth 1;good h of b worth 1;good i of a worth 1;");
        s.fine("g+i: 1; g+h: none", s.x.log(1, 1, 2), 1);
        s.fine("g, i", s.x.sure(1, 1, 2), 5);
        s.fine("2+1 of g+h, h+i, 3 of g+i", s.x.log(1, 1, 3), 5);
        s.fine("none in all", s.x.sure(1, 1, 3), 0);
        tell(s, 0, 1);
        s.fine("h more than g, i", s.x.log(0, 1, 3), 2);
        s.fine("h", s.x.sure(0, 1, 3), 2);
        s.world("nation a;good g of a worth 1;");
        s.fine("one good alone: no way", s.x.log(1, 1, 9), 0);
    }

    private static void edges() {
        Sea s = new Sea("log edges");
        s.world("nation a;nation b;good g of a worth 1;good h of b worth 1;");
        s.none("no tray", s.x.log(4, 1, 2), 1);
        s.none("no tray", s.x.sure(-1, 1, 2), 1);
        s.none("n 0", s.x.log(0, 0, 2), 1);
        s.none("n 21", s.x.log(0, 21, 2), 1);
        s.none("h 1", s.x.log(0, 1, 1), 1);
        s.none("h 61", s.x.sure(0, 1, 61), 1);
        s.none("missing", s.x.log(0, 1, 2), 2);
        s.none("missing", s.x.sure(0, 1, 2), 2);
        tell(s, 0, 0, 1, 2, -1, -2);
        s.none("too few", s.x.log(0, 6, 2), 3);
        s.none("too few", s.x.sure(0, 6, 2), 3);
        s.none("no nation", s.x.log(0, 3, 2), 5);
        s.none("no nation", s.x.sure(0, 3, 2), 5);
        s.fine("not asked", s.x.log(0, 2, 9), 0);
        tell(s, 0, -1, -2);
        s.none("-2", s.x.log(0, 2, 2), 5);
        s.fine("not asked", s.x.log(0, 1, 2), 1);
        s.x.tray(3, 3, 1);
        s.x.write(3, 0, 4294967296L);
        s.none("too great to be 0", s.x.log(3, 1, 2), 5);
        CargoFlag none = new CargoFlag();
        none.tray(0, 0, 1);
        s.due("no nations", none.log(0, 1, 2), -1);
        s.due("no nations", none.status(), 5);
    }

    private static void byRule() {
        Sea s = new Sea("log by rule");
        s.world("nation a;nation b;good g of a worth 3;good h of b worth 2;rule 2;");
        tell(s, 0, -1);
        s.fine("2+3, 4+6", s.x.log(0, 1, 10), 2);
        s.x.rule(1);
        s.fine("all are even", s.x.log(0, 1, 10), 45);
        s.x.rule(0);
        s.fine("x = y", s.x.log(0, 1, 10), 5);
    }

    private static void copyLog() {
        Sea s = Sea.of("copyLog");
        s.none("no ship", s.x.copyLog(3, 0, 1), 1);
        s.none("no tray", s.x.copyLog(0, 4, 1), 1);
        s.none("n 0", s.x.copyLog(0, 0, 0), 1);
        s.none("n 21", s.x.copyLog(0, 0, 21), 1);
        s.none("missing", s.x.copyLog(0, 0, 1), 2);
        s.x.tray(0, 0, 3);
        s.x.write(0, 2, 77);
        s.none("too few", s.x.copyLog(0, 0, 4), 3);
        s.fine("stays", s.x.read(0, 0), 0);
        s.fine("two", s.x.copyLog(0, 0, 2), 2);
        s.fine("day 0", s.x.read(0, 0), 1);
        s.fine("day 1", s.x.read(0, 1), -1);
        s.fine("stays", s.x.read(0, 2), 77);
        for (int sort = 0; sort < 4; sort++) {
            s.x.tray(1, sort, 20);
            s.fine("twenty", s.x.copyLog(1, 1, 20), 20);
            for (int d = 0; d < 20; d++) {
                s.fine("day " + d, s.x.read(1, d), d < 3 ? 1 : -1);
            }
        }
        s.due("a log that can be", s.x.log(0, 2, 5) > 0, true);
    }
}
