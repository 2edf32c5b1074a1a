/** Promises 1 and 2: a new object, and set. */
public final class SettingsTest {
    private static final Due due = new Due("SettingsTest");

    public static void main(String[] args) {
        aNewObject();
        objectsOfTheirOwn();
        rangesOfSettings();
        wrongSettings();
        due.end();
    }

    private static void aNewObject() {
        FieldPumps x = new FieldPumps();
        for (int what = 0; what <= 10; what++) {
            due.is(x.count(what), 0);
        }
        for (int what = 0; what < Stations.SETTINGS.length; what++) {
            due.is(x.count(20 + what), Stations.SETTINGS[what][2]);
        }
        for (int what = 0; what <= 14; what++) {
            due.is(x.station(what), what == 1 ? 10000 : what == 4 ? Stations.NOT_FOUND : 0);
        }
        due.is(x.undo(), Stations.NOT_POSSIBLE);
        due.is(x.balance(), Stations.NOT_FOUND);
        due.is(x.readyAt(0), Stations.NOT_FOUND);
        due.is(x.nightAt(0), Stations.NOT_FOUND);
        due.is(x.eventAt(0, 0), Stations.NOT_FOUND);
        due.is(x.fault(0), Stations.NOT_FOUND);
        due.is(x.clearText(), 0);
        due.is(x.leak(5), 0);
    }

    private static void objectsOfTheirOwn() {
        FieldPumps one = new FieldPumps();
        FieldPumps other = new FieldPumps();
        one.set(0, 500);
        one.pump(0, 500, 5);
        one.type('o');
        due.is(other.count(20), 400);
        due.is(other.count(0), 0);
        due.is(other.count(10), 0);
        due.is(new FieldPumps().count(20), 400);
    }

    private static void rangesOfSettings() {
        for (int what = 0; what < Stations.SETTINGS.length; what++) {
            FieldPumps x = new FieldPumps();
            int least = Stations.SETTINGS[what][0];
            int most = Stations.SETTINGS[what][1];
            due.is(x.set(what, least - 1), Stations.INVALID);
            due.is(x.set(what, most + 1), Stations.INVALID);
            due.is(x.count(20 + what), Stations.SETTINGS[what][2]);
            due.is(x.count(9), 0);
            due.is(x.set(what, least), Stations.SETTINGS[what][2]);
            due.is(x.set(what, most), least);
            due.is(x.set(what, most), most);
            due.is(x.count(20 + what), most);
            due.is(x.count(9), 3);
        }
    }

    private static void wrongSettings() {
        FieldPumps x = new FieldPumps();
        due.is(x.set(-1, 400), Stations.INVALID);
        due.is(x.set(19, 400), Stations.INVALID);
        due.is(x.set(Integer.MIN_VALUE, 400), Stations.INVALID);
        due.is(x.set(Integer.MAX_VALUE, 400), Stations.INVALID);
        due.is(x.set(0, Integer.MIN_VALUE), Stations.INVALID);
        due.is(x.set(0, Integer.MAX_VALUE), Stations.INVALID);
        due.is(x.count(9), 0);
    }
}
