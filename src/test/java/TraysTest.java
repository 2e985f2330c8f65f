/** Promises 1 to 8. */
public final class TraysTest {
    public static void main(String[] args) {
        aNewObject();
        status();
        tray();
        write();
        read();
        pour();
        pourAsTheyWere();
        Sea.end("TraysTest");
    }

    private static void aNewObject() {
        Sea s = new Sea("new object");
        s.due("status", s.x.status(), 0);
        s.fraction("new", 0, 1);
        s.due("fault", s.x.fault(0), -1);
        s.due("fault place", s.x.fault(1), -1);
        for (int w = 0; w < 10; w++) {
            s.fine("told " + w, s.x.told(w), 0);
        }
        for (int t = 0; t < 4; t++) {
            s.none("read " + t, s.x.read(t, 0), 2);
        }
        s.none("live", s.x.live(0), 6);
        s.no("mean", s.x.mean(0, 1), 6);
        s.none("lived", s.x.lived(0), 6);
        s.none("undo", s.x.undo(), 6);
        s.none("world of one byte", s.x.world(1), 1);
        s.fine("world of an empty tape", s.x.world(0), 0);
    }

    private static void status() {
        Sea s = new Sea("status");
        s.x.read(0, 0);
        s.due("missing", s.x.status(), 2);
        s.due("again", s.x.status(), 2);
        s.x.top();
        s.x.bottom();
        s.x.fault(7);
        s.x.feed(0, 0, 0, 0, 0);
        s.due("calls without one leave it", s.x.status(), 2);
        s.x.told(0);
        s.due("told", s.x.status(), 0);
    }

    private static void tray() {
        Sea s = new Sea("tray");
        s.no("tray -1", s.x.tray(-1, 0, 1), 1);
        s.no("tray 4", s.x.tray(4, 0, 1), 1);
        s.no("sort -1", s.x.tray(0, -1, 1), 1);
        s.no("sort 4", s.x.tray(0, 4, 1), 1);
        s.no("many -1", s.x.tray(0, 0, -1), 1);
        s.no("many 61", s.x.tray(0, 0, 61), 1);
        s.none("still missing", s.x.read(0, 0), 2);
        s.fine("of none", s.x.tray(0, 0, 0));
        s.none("it is there, but has no place", s.x.read(0, 0), 3);
        s.fine("of 60", s.x.tray(3, 3, 60));
        s.fine("the last", s.x.read(3, 59), 0);
        s.none("behind it", s.x.read(3, 60), 3);
        s.fine("write", s.x.write(3, 5, 7));
        s.no("refused", s.x.tray(3, 4, 60), 1);
        s.fine("stays", s.x.read(3, 5), 7);
        s.fine("anew", s.x.tray(3, 3, 10));
        s.fine("all are 0", s.x.read(3, 5), 0);
    }

    private static void write() {
        Sea s = new Sea("write");
        long[][] cut = {{300, 44}, {128, -128}, {-129, 127}};
        s.x.tray(0, 0, 2);
        for (long[] c : cut) {
            s.fine("write 8", s.x.write(0, 1, c[0]));
            s.fine("read 8", s.x.read(0, 1), c[1]);
        }
        s.x.tray(1, 1, 1);
        s.fine("write 16", s.x.write(1, 0, 98304L));
        s.fine("read 16", s.x.read(1, 0), -32768);
        s.x.tray(2, 2, 1);
        s.fine("write 32", s.x.write(2, 0, 4294967295L));
        s.fine("read 32", s.x.read(2, 0), -1);
        s.x.tray(3, 3, 1);
        s.fine("write 64", s.x.write(3, 0, Long.MIN_VALUE));
        s.fine("read 64", s.x.read(3, 0), Long.MIN_VALUE);
        s.no("no tray", s.x.write(4, 0, 1), 1);
        s.no("no tray", s.x.write(-1, 0, 1), 1);
        s.no("place -1", s.x.write(0, -1, 1), 3);
        s.no("place 2", s.x.write(0, 2, 1), 3);
        CargoFlag m = new CargoFlag();
        s.due("missing", m.write(2, 99, 1), false);
        s.due("missing ahead of place", m.status(), 2);
    }

    private static void read() {
        Sea s = new Sea("read");
        s.none("no tray", s.x.read(-1, 0), 1);
        s.none("no tray", s.x.read(4, 0), 1);
        s.none("missing", s.x.read(0, 77), 2);
        s.x.tray(0, 3, 2);
        s.x.write(0, 0, -1);
        s.fine("-1 is no NONE", s.x.read(0, 0), -1);
        s.none("place 2", s.x.read(0, 2), 3);
        s.none("place -1", s.x.read(0, -1), 3);
        s.none("place far", s.x.read(0, Integer.MAX_VALUE), 3);
    }

    private static void pour() {
        Sea s = new Sea("pour");
        s.no("no from", s.x.pour(4, 0, 0, 0, 0), 1);
        s.no("no to", s.x.pour(0, 0, -1, 0, 0), 1);
        s.no("many below 0", s.x.pour(0, 0, 1, 0, -1), 1);
        s.no("place below 0", s.x.pour(0, -1, 1, 0, 0), 1);
        s.no("at below 0", s.x.pour(0, 0, 1, -1, 0), 1);
        s.no("missing", s.x.pour(0, 0, 1, 0, 0), 2);
        s.x.tray(0, 0, 3);
        s.no("to is missing", s.x.pour(0, 0, 1, 0, 99), 2);
        s.no("from is missing", s.x.pour(1, 0, 0, 0, 99), 2);
        s.x.tray(1, 1, 3);
        s.no("unlike, ahead of places", s.x.pour(0, 99, 1, 0, 99), 8);
        s.x.tray(2, 0, 2);
        s.no("from too short", s.x.pour(2, 0, 0, 0, 3), 3);
        s.no("to too short", s.x.pour(0, 0, 2, 0, 3), 3);
        s.no("place far", s.x.pour(0, Integer.MAX_VALUE, 2, 0, 1), 3);
        s.no("many far", s.x.pour(0, 1, 2, 0, Integer.MAX_VALUE), 3);
        s.no("at behind the end", s.x.pour(0, 0, 2, 2, 1), 3);
        s.x.write(0, 0, 5);
        s.x.write(0, 1, 6);
        s.x.write(0, 2, 7);
        s.fine("two", s.x.pour(0, 1, 2, 0, 2));
        s.fine("first", s.x.read(2, 0), 6);
        s.fine("second", s.x.read(2, 1), 7);
        s.fine("from stays", s.x.read(0, 1), 6);
        s.fine("none at the end", s.x.pour(0, 3, 2, 2, 0));
    }

    private static void pourAsTheyWere() {
        for (int up = 0; up < 2; up++) {
            Sea s = new Sea("pour into itself " + up);
            s.x.tray(0, 2, 5);
            for (int i = 0; i < 5; i++) {
                s.x.write(0, i, 10 + i);
            }
            s.fine("pour", s.x.pour(0, up, 0, 1 - up, 4));
            for (int i = 0; i < 4; i++) {
                s.fine("place", s.x.read(0, 1 - up + i), 10 + up + i);
            }
        }
    }
}
