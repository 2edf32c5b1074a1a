/** Promises 17 and 18: foresee and foreseeEvent. */
public final class ForesightTest {
    private static final Due due = new Due("ForesightTest");

    public static void main(String[] args) {
        foretellsWhatComes();
        longForesight();
        wrongForesight();
        noVariableOne();
        firstEvents();
        eventsWithinADay();
        wrongEvents();
        changesNothing();
        due.end();
    }

    private static FieldPumps busy() {
        FieldPumps x = new FieldPumps();
        x.pump(1, 700, 20);
        x.pump(0, 650, 30);
        x.pump(2, 600, 400);
        x.zone(200);
        x.zone(50);
        x.programme(0, 20, 60);
        x.programme(1, 50, 200);
        x.set(18, 15);
        return x;
    }

    private static void foretellsWhatComes() {
        for (int minutes = 1; minutes <= 240; minutes += 13) {
            FieldPumps x = busy();
            x.pass(7);
            int[] foretold = new int[5];
            for (int what = 0; what < 5; what++) {
                foretold[what] = x.foresee(minutes, what);
            }
            x.pass(minutes);
            due.is(foretold[0], x.station(0));
            due.is(foretold[1], x.station(1));
            due.is(foretold[2], x.station(5));
            due.is(foretold[3], x.station(4));
            due.is(foretold[4], x.station(2));
        }
        FieldPumps x = Stations.giving(200);
        x.fill(50);
        due.is(x.foresee(1, 4), 50);
        due.is(x.foresee(1, 1), 0);
        due.is(x.foresee(2, 4), 0);
        due.is(x.foresee(1, 2), 1);
    }

    private static void longForesight() {
        FieldPumps x = new FieldPumps();
        x.fill(0);
        x.set(14, 1);
        due.is(x.foresee(1440, 1), 1440);
        Stations.passLong(x, 20000);
        x.fill(0);
        due.is(x.foresee(1440, 1), 1440);
    }

    private static void wrongForesight() {
        FieldPumps x = new FieldPumps();
        due.is(x.foresee(0, 0), Stations.INVALID);
        due.is(x.foresee(1441, 0), Stations.INVALID);
        due.is(x.foresee(Integer.MIN_VALUE, 0), Stations.INVALID);
        due.is(x.foresee(1, -1), Stations.INVALID);
        due.is(x.foresee(1, 5), Stations.INVALID);
        due.is(x.foresee(0, 3), Stations.INVALID);
        due.is(x.foresee(1440, 0), 0);
    }

    private static void noVariableOne() {
        FieldPumps x = new FieldPumps();
        due.is(x.foresee(1, 3), Stations.NOT_FOUND);
        x.pump(0, 400, 1000);
        due.is(x.foresee(1, 3), Stations.NOT_FOUND);
        due.is(x.foresee(1, 2), 1);
        x = new FieldPumps();
        x.pump(0, 400, 1000);
        x.pump(1, 400, 1000);
        x.service(0, 0);
        due.is(x.foresee(1, 3), 1);
    }

    private static void firstEvents() {
        FieldPumps x = new FieldPumps();
        x.pump(1, 1000, 1000);
        x.set(10, 1);
        x.set(2, 0);
        // It wakes in the first minute and sleeps in the fourth.
        due.is(x.foreseeEvent(0), 1);
        due.is(x.foreseeEvent(3), 1);
        due.is(x.foreseeEvent(1), 4);
        due.is(x.foreseeEvent(2), 4);
        due.is(x.foreseeEvent(4), Stations.NOT_FOUND);
        x.pass(3);
        due.is(x.foreseeEvent(2), 1);
        x.pass(1);
        // Those that have been are not foretold.
        due.is(x.foreseeEvent(2), 4);
        due.is(x.foreseeEvent(3), 1);
        // Dry at the minute after the next one, and going on as soon as it is filled.
        x = new FieldPumps();
        x.fill(0);
        x.set(14, 1);
        due.is(x.foreseeEvent(4), 2);
        x.set(14, 1000);
        x.set(11, 10000);
        due.is(x.foreseeEvent(4), 2);
        due.is(x.foreseeEvent(5), 2);
        x.set(12, 3500);
        due.is(x.foreseeEvent(5), 4);
        due.is(x.foreseeEvent(6), Stations.NOT_FOUND);
        // A rotation.
        x = new FieldPumps();
        x.pump(1, 400, 1000);
        x.pump(1, 400, 1000);
        x.set(5, 60);
        x.set(8, 60);
        due.is(x.foreseeEvent(7), Stations.NOT_FOUND);
        x.set(18, 3);
        due.is(x.foreseeEvent(7), 4);
        // An event of now, made by a call, has been already.
        x = new FieldPumps();
        x.pump(0, 400, 1000);
        x.pass(1);
        x.service(0, 0);
        due.is(x.eventAt(0, 0), 1);
        due.is(x.foreseeEvent(1), Stations.NOT_FOUND);
        due.is(x.foreseeEvent(0), Stations.NOT_FOUND);
    }

    private static void eventsWithinADay() {
        FieldPumps x = new FieldPumps();
        x.set(14, 0);
        x.set(11, 1);
        x.set(13, 1);
        x.pump(0, 100, 1000);
        // 10 litres a minute from the second minute on, and no pressure as the zone takes all.
        x.set(10, 200);
        x.fill(14390);
        x.set(12, 10000);
        due.is(x.foreseeEvent(4), 1440);
        x.fill(14391);
        due.is(x.foreseeEvent(4), Stations.NOT_FOUND);
        // A leak alarm.
        x = Stations.giving(200);
        x.set(17, 0);
        for (int i = 0; i < 3; i++) {
            x.set(15, x.count(8) + 1);
            x.set(16, 1);
            x.pass(1);
        }
        due.is(x.count(5), 3);
        x.fill(10);
        x.set(15, x.count(8) + 1);
        due.is(x.foreseeEvent(6), 1);
        due.is(x.station(10), 0);
    }

    private static void wrongEvents() {
        FieldPumps x = new FieldPumps();
        due.is(x.foreseeEvent(-1), Stations.INVALID);
        due.is(x.foreseeEvent(8), Stations.INVALID);
        due.is(x.foreseeEvent(Integer.MAX_VALUE), Stations.INVALID);
        for (int kind = 0; kind < 8; kind++) {
            due.is(x.foreseeEvent(kind), Stations.NOT_FOUND);
        }
    }

    private static void changesNothing() {
        FieldPumps x = busy();
        x.pass(30);
        Stations.type(x, "p5;");
        String before = Stations.all(x);
        for (int what = 0; what < 5; what++) {
            x.foresee(1440, what);
        }
        for (int kind = 0; kind < 8; kind++) {
            x.foreseeEvent(kind);
        }
        due.isTrue("foretelling changes nothing", before.equals(Stations.all(x)));
    }
}
