/** Promises 19, 21, 22 and 23: station, eventAt, count and undo. (nightAt: MinuteTest.) */
public final class StateTest {
    private static final Due due = new Due("StateTest");

    public static void main(String[] args) {
        stationTells();
        eventsAreKept();
        wrongEvents();
        counts();
        undoing();
        fourStates();
        eachChangeIsRecorded();
        theLeakIsRestoredAndTheTextIsNot();
        errorsAndQuestionsAreNotRecorded();
        errorsChangeNothing();
        due.end();
    }

    private static void stationTells() {
        FieldPumps x = Stations.underPressure(100);
        x.zone(40);
        x.open(0, 1);
        due.is(x.station(0), 100);
        due.is(x.station(1), 0);
        due.is(x.station(2), 100);
        due.is(x.station(3), 10);
        due.is(x.station(4), Stations.NOT_FOUND);
        due.is(x.station(5), 1);
        due.is(x.station(6), 0);
        due.is(x.station(7), 0);
        due.is(x.station(8), 0);
        due.is(x.station(11), 2);
        due.is(x.station(12), 0);
        due.is(x.station(13), 0);
        due.is(x.station(14), 100);
        due.is(x.station(-1), Stations.INVALID);
        due.is(x.station(15), Stations.INVALID);
        due.is(x.station(Integer.MAX_VALUE), Stations.INVALID);
        due.is(x.station(Integer.MIN_VALUE), Stations.INVALID);
    }

    private static void eventsAreKept() {
        FieldPumps x = new FieldPumps();
        x.pump(0, 400, 1000);
        for (int i = 1; i <= 4; i++) {
            x.pass(1);
            x.service(0, 0);
            x.service(0, 1);
            due.is(x.count(6), 3 * i);
        }
        due.is(x.eventAt(11, 0), 0);
        due.is(x.eventAt(11, 1), 1);
        due.is(x.eventAt(11, 2), 0);
        due.is(x.eventAt(10, 0), 3);
        due.is(x.eventAt(10, 2), Stations.NOT_FOUND);
        due.is(x.eventAt(12, 0), Stations.NOT_FOUND);
        x.pass(1);
        due.is(x.count(6), 12);
        due.is(x.eventAt(0, 0), 3);
        due.is(x.eventAt(0, 1), 5);
        due.is(x.eventAt(1, 0), 0);
        due.is(x.eventAt(2, 0), 1);
        due.is(x.eventAt(2, 1), 4);
        due.is(x.eventAt(11, 0), 1);
        due.is(x.eventAt(11, 1), 1);
        due.is(x.eventAt(12, 0), Stations.NOT_FOUND);
    }

    private static void wrongEvents() {
        FieldPumps x = new FieldPumps();
        x.pump(0, 400, 1000);
        x.pass(1);
        due.is(x.eventAt(-1, 0), Stations.INVALID);
        due.is(x.eventAt(0, -1), Stations.INVALID);
        due.is(x.eventAt(0, 3), Stations.INVALID);
        due.is(x.eventAt(5, 3), Stations.INVALID);
        due.is(x.eventAt(Integer.MIN_VALUE, 0), Stations.INVALID);
        due.is(x.eventAt(Integer.MAX_VALUE, 0), Stations.NOT_FOUND);
        due.is(x.eventAt(2, 0), Stations.NOT_FOUND);
        due.is(x.eventAt(1, 2), 0);
        due.is(x.eventAt(0, 2), Stations.NOT_FOUND);
    }

    private static void counts() {
        FieldPumps x = new FieldPumps();
        x.pump(0, 400, 1000);
        x.pump(0, 400, 1000);
        x.pump(0, 400, 1000);
        x.zone(10);
        x.zone(20);
        x.open(1, 1);
        x.programme(0, 1000, 1001);
        x.set(16, 1);
        Stations.passLong(x, 1501);
        x.service(2, 0);
        Stations.type(x, "p5;");
        due.is(x.count(0), 3);
        due.is(x.count(1), 2);
        due.is(x.count(2), 1);
        due.is(x.count(3), 1);
        due.is(x.count(4), 0);
        due.is(x.count(5), 2);
        due.is(x.count(6), 5);
        due.is(x.count(7), 1501);
        due.is(x.count(8), 61);
        due.is(x.count(9), 4);
        due.is(x.count(10), 3);
        for (int what = 11; what < 20; what++) {
            due.is(x.count(what), Stations.INVALID);
        }
        due.is(x.count(36), 1);
        due.is(x.count(38), 0);
        due.is(x.count(-1), Stations.INVALID);
        due.is(x.count(39), Stations.INVALID);
        due.is(x.count(Integer.MIN_VALUE), Stations.INVALID);
        due.is(x.count(Integer.MAX_VALUE), Stations.INVALID);
        x = new FieldPumps();
        x.pump(0, 400, 1000);
        x.pump(0, 400, 1000);
        due.is(x.count(4), 2);
        x.pass(1);
        due.is(x.count(4), 1);
        x.service(1, 0);
        due.is(x.count(4), 0);
    }

    private static void undoing() {
        FieldPumps x = new FieldPumps();
        due.is(x.undo(), Stations.NOT_POSSIBLE);
        x.set(0, 500);
        x.set(0, 600);
        due.is(x.count(9), 2);
        due.is(x.undo(), 1);
        due.is(x.count(20), 500);
        x.set(0, 700);
        due.is(x.count(9), 2);
        due.is(x.undo(), 1);
        due.is(x.count(20), 500);
        due.is(x.undo(), 0);
        due.is(x.count(20), 400);
        due.is(x.undo(), Stations.NOT_POSSIBLE);
        due.is(x.count(20), 400);
    }

    private static void fourStates() {
        FieldPumps x = new FieldPumps();
        for (int i = 1; i <= 6; i++) {
            x.fill(i);
            due.is(x.count(9), Math.min(4, i));
        }
        for (int i = 3; i >= 0; i--) {
            due.is(x.undo(), i);
            due.is(x.station(1), i + 2);
        }
        due.is(x.undo(), Stations.NOT_POSSIBLE);
        due.is(x.station(1), 2);
    }

    private static void eachChangeIsRecorded() {
        for (int change = 0; change < 11; change++) {
            FieldPumps x = Stations.busy();
            if (change == 10) {
                trip(x);
            }
            String before = Stations.all(x);
            due.is(x.count(9), 3);
            due.is(change(x, change) >= 0 ? 1 : 0, 1);
            due.is(x.count(9), 4);
            due.is(x.undo(), 3);
            due.isTrue("change " + change + " is undone", before.equals(Stations.all(x)));
        }
    }

    private static void trip(FieldPumps x) {
        x.set(11, 10000);
        x.set(13, 1);
        x.fill(0);
        x.pass(1);
        x.fill(9000);
        x.undo();
    }

    private static int change(FieldPumps x, int change) {
        switch (change) {
            case 0: return x.set(0, 777);
            case 1: return x.pump(0, 500, 5);
            case 2: return x.service(1, 0);
            case 3: return x.zone(77);
            case 4: return x.open(0, 1);
            case 5: return x.leak(77);
            case 6: return x.programme(1, 7, 8);
            case 7: return x.fill(7777);
            case 8: return x.pass(240);
            case 9: return x.play();
            default: return x.reset();
        }
    }

    private static void theLeakIsRestoredAndTheTextIsNot() {
        FieldPumps x = Stations.busy();
        x.leak(77);
        x.undo();
        due.is(x.leak(100), 100);
        Stations.type(x, "p1;");
        x.play();
        Stations.type(x, "p2;");
        x.undo();
        due.is(x.count(10), 6);
        due.is(x.play(), 2);
    }

    private static void errorsAndQuestionsAreNotRecorded() {
        FieldPumps x = Stations.busy();
        x.undo();
        due.is(x.count(9), 2);
        Stations.all(x);
        x.curve(0, 1000, 0);
        x.foresee(10, 0);
        x.foreseeEvent(0);
        x.type('x');
        x.fault(0);
        due.is(x.play(), Stations.NOT_POSSIBLE);
        x.clearText();
        due.is(x.count(9), 2);
    }

    private static void errorsChangeNothing() {
        FieldPumps x = Stations.busy();
        Stations.type(x, "p5;x");
        String before = Stations.all(x);
        due.is(x.set(0, 99), Stations.INVALID);
        due.is(x.pump(3, 500, 5), Stations.INVALID);
        due.is(x.service(0, 1), Stations.NOT_POSSIBLE);
        due.is(x.service(9, 1), Stations.INVALID);
        due.is(x.zone(0), Stations.INVALID);
        due.is(x.open(1, 1), Stations.NOT_POSSIBLE);
        due.is(x.open(9, 1), Stations.INVALID);
        due.is(x.leak(1001), Stations.INVALID);
        due.is(x.programme(0, 5, 5), Stations.INVALID);
        due.is(x.fill(20001), Stations.INVALID);
        due.is(x.reset(), Stations.NOT_POSSIBLE);
        due.is(x.pass(241), Stations.INVALID);
        due.is(x.type(31), Stations.INVALID);
        due.is(x.play(), Stations.NOT_POSSIBLE);
        due.isTrue("errors change nothing", before.equals(Stations.all(x)));
    }
}
