/** "each change records everything before it but the text": of all that a change may change. */
public final class HistoryEdgeTest {
    private static final Due due = new Due("HistoryEdgeTest");

    public static void main(String[] args) {
        emptyHistory();
        settings();
        minutesInARow();
        dryOnes();
        nights();
        alarms();
        eventsThatWent();
        pumpsThatChange();
        zonesAndProgrammes();
        programmesInWhatIsForetold();
        undoneTwice();
        changesBehindUndone();
        due.end();
    }

    /** "Returns the number of states that are left in the history; NOT_POSSIBLE if it is empty." */
    private static void emptyHistory() {
        Made fresh = new Made(FieldPumps::new);
        fresh.refuses(due, FieldPumps::undo, Stations.NOT_POSSIBLE);
        FieldPumps x = new FieldPumps();
        x.set(0, 500);
        due.is(x.undo(), 0);
        due.is(x.undo(), Stations.NOT_POSSIBLE);
        due.is(x.count(20), 400);
        // Neither what is asked, nor an error, nor the text is a change.
        x.set(0, 99);
        x.type('p');
        x.clearText();
        x.foresee(1440, 0);
        x.foreseeEvent(0);
        x.fault(0);
        x.station(0);
        due.is(x.count(9), 0);
        due.is(x.undo(), Stations.NOT_POSSIBLE);
    }

    /** Of each setting alone, and of all of them at once. */
    private static void settings() {
        int[][] settings = Stations.SETTINGS;
        Made busy = new Made(Stations::busy);
        for (int i = 0; i < settings.length; i++) {
            int what = i;
            busy.changes(due, x -> x.set(what, settings[what][1]), busy.anew().count(20 + what));
        }
        // All are recorded by each change.
        FieldPumps x = new FieldPumps();
        for (int what = 0; what < settings.length; what++) {
            x.set(what, settings[what][1]);
        }
        for (int i = 0; i < 4; i++) {
            x.undo();
        }
        for (int what = 0; what < settings.length; what++) {
            due.is(x.count(20 + what), settings[what][what < 15 ? 1 : 2]);
        }
    }

    private static void minutesInARow() {
        new Made(() -> Stations.underPressure(379)).changes(due, x -> x.pass(1), 3);
        new Made(() -> Stations.underPressure(421)).changes(due, x -> x.pass(1), 3);
        new Made(() -> Stations.underPressure(421)).changes(due, x -> x.pass(9), 11);
        new Made(() -> Stations.variable(500)).changes(due, x -> x.pass(1), 2);
        new Made(() -> Stations.variable(500)).changes(due, x -> x.pass(9), 10);
        // The same with minutes that are dry, by which they begin anew.
        new Made(() -> {
            FieldPumps x = Stations.variable(500);
            x.set(11, 1);
            x.undo();
            x.set(11, 1);
            return x;
        }).changes(due, x -> x.pass(3), 4);
    }

    private static void dryOnes() {
        Made dry = new Made(Stations::dry);
        dry.changes(due, x -> x.pass(240), 245);
        dry.changes(due, FieldPumps::reset, 3);
        dry.changes(due, x -> x.fill(20000), 0);
        dry.changes(due, FieldPumps::play, 1);
        FieldPumps x = dry.anew();
        x.fill(20000);
        due.is(x.reset(), 3);
        due.is(x.station(6), 0);
        due.is(x.station(7), 0);
        due.is(x.undo(), 3);
        due.is(x.station(6), 1);
        due.is(x.station(7), 3);
        due.is(x.undo(), 2);
        due.is(x.station(1), 0);
        // The pass of the trips.
        due.is(x.undo(), 1);
        due.is(x.station(6), 0);
        due.is(x.station(7), 0);
        due.is(x.station(8), 0);
    }

    /** The flow so far, and those that are noted, also when the oldest one of seven has gone. */
    private static void nights() {
        FieldPumps x = Stations.giving(200);
        x.set(15, 2);
        x.fill(5);
        x.pass(1);
        due.is(x.station(9), 5);
        x.fill(6);
        x.pass(1);
        due.is(x.station(9), 11);
        due.is(x.undo(), 3);
        due.is(x.station(9), 5);
        x = Stations.giving(200);
        for (int night = 1; night <= 7; night++) {
            Stations.night(x, 10 * night);
        }
        Stations.night(x, 80);
        due.is(x.nightAt(0), 80);
        due.is(x.nightAt(6), 20);
        due.is(x.undo(), 3);
        due.is(x.count(5), 7);
        for (int index = 0; index < 7; index++) {
            due.is(x.nightAt(index), 70 - 10 * index);
        }
        due.is(x.nightAt(7), Stations.NOT_FOUND);
    }

    private static void alarms() {
        FieldPumps x = Stations.giving(200);
        x.set(17, 0);
        for (int night = 0; night < 3; night++) {
            Stations.night(x, 10);
        }
        Stations.night(x, 11);
        due.is(x.station(10), 1);
        due.is(x.eventAt(0, 0), 6);
        due.is(x.undo(), 3);
        due.is(x.station(10), 0);
        due.is(x.count(5), 3);
        due.is(x.eventAt(0, 0), 3);
        due.is(x.foreseeEvent(6), 1);
        due.is(x.station(10), 0);
        x.fill(10);
        due.is(x.foreseeEvent(6), Stations.NOT_FOUND);
        x.pass(1);
        due.is(x.station(10), 0);
    }

    /** Of twelve the oldest ones have gone; undone they are there again. */
    private static void eventsThatWent() {
        FieldPumps x = new FieldPumps();
        x.pump(1, 2000, 1);
        x.set(2, 0);
        x.set(8, 1);
        Stations.keepInTank(x, 0);
        // A start, a waking, a stop and sleep in each minute.
        x.pass(3);
        due.is(x.count(6), 12);
        String before = Stations.present(x);
        x.pass(1);
        due.is(x.count(6), 12);
        due.is(x.eventAt(11, 1), 2);
        due.is(x.undo(), 3);
        due.same("the events", Stations.present(x), before);
        due.is(x.eventAt(11, 1), 1);
        due.is(x.eventAt(0, 1), 3);
        x.pass(2);
        due.is(x.eventAt(11, 1), 3);
        due.is(x.eventAt(0, 1), 5);
    }

    /** Speeds, minutes, starts, service, and which one is the variable one. */
    private static void pumpsThatChange() {
        Made two = new Made(() -> {
            FieldPumps x = Stations.variable(500);
            x.pump(1, 2000, 1);
            Stations.quick(x);
            x.set(5, 1);
            x.pass(1);
            x.undo();
            x.pass(1);
            x.undo();
            x.undo();
            return x;
        });
        two.changes(due, x -> x.pass(1), 2);
        two.changes(due, x -> x.pass(9), 10);
        two.changes(due, x -> x.service(0, 0), 1);
        two.changes(due, x -> x.service(1, 0), 0);
        FieldPumps x = Stations.busy();
        x.pass(60);
        String before = Stations.present(x);
        x.service(0, 0);
        x.service(1, 0);
        x.service(2, 0);
        x.pass(99);
        for (int i = 0; i < 4; i++) {
            x.undo();
        }
        due.same("the pumps", Stations.present(x), before);
    }

    private static void zonesAndProgrammes() {
        Made busy = new Made(Stations::busy);
        busy.changes(due, x -> x.zone(1000), 2);
        busy.changes(due, x -> x.open(0, 1), 2);
        busy.changes(due, x -> x.open(1, 0), 0);
        busy.changes(due, x -> x.programme(1, 101, 150), 2);
        busy.changes(due, x -> x.leak(1000), 100);
        busy.changes(due, x -> x.fill(0), busy.anew().station(1));
        busy.changes(due, x -> x.pump(2, 100, 1), 3);
        // A programme that is undone opens nothing, and another one in its place another zone.
        FieldPumps x = new FieldPumps();
        x.zone(10);
        x.zone(20);
        x.programme(1, 2, 9);
        x.undo();
        due.is(x.zoneOf(1, 3), 0);
        x.programme(0, 3, 9);
        x.pass(2);
        due.is(x.count(3), 0);
        x.pass(1);
        due.is(x.zoneOf(0, 1), 1);
        due.is(x.zoneOf(1, 1), 0);
        x.undo();
        due.is(x.count(3), 0);
    }

    /** What is foretold or tried has the programmes of each zone. */
    private static void programmesInWhatIsForetold() {
        FieldPumps x = Stations.underPressure(100);
        x.zone(4);
        x.zone(40);
        x.programme(1, 4, 6);
        x.programme(0, 4, 5);
        due.is(x.foresee(1, 0), 100);
        due.is(x.foresee(2, 0), 89);
        // At pressure 89 the first one is closed, and the second one takes 8.
        due.is(x.foresee(3, 0), 81);
        due.is(x.foresee(4, 0), 81);
        Stations.type(x, "p2;o1;");
        due.is(x.fault(0), 3);
        Stations.retype(x, "p2;c1;p1;");
        due.is(x.play(), 3);
        due.is(x.station(0), 89);
        due.is(x.count(3), 0);
    }

    /** Up to as many as there are, in the reverse of their order. */
    private static void undoneTwice() {
        for (int changes = 1; changes <= 6; changes++) {
            FieldPumps x = new FieldPumps();
            for (int i = 1; i <= changes; i++) {
                x.zone(i);
            }
            int states = Math.min(4, changes);
            for (int undone = 1; undone <= states; undone++) {
                due.is(x.undo(), states - undone);
                due.is(x.count(1), changes - undone);
            }
            due.is(x.undo(), Stations.NOT_POSSIBLE);
            due.is(x.count(1), changes - states);
        }
    }

    /** A change behind one that was undone takes its place; what was undone does not come back. */
    private static void changesBehindUndone() {
        FieldPumps x = new FieldPumps();
        x.set(0, 500);
        x.set(0, 600);
        x.undo();
        x.zone(7);
        due.is(x.count(20), 500);
        due.is(x.count(9), 2);
        x.undo();
        due.is(x.count(1), 0);
        due.is(x.count(20), 500);
        x.undo();
        due.is(x.count(20), 400);
        due.is(x.undo(), Stations.NOT_POSSIBLE);
    }
}
