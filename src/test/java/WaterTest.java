/** Promises 9 to 15: zone, open, leak, programme, zoneOf, fill and reset. */
public final class WaterTest {
    private static final Due due = new Due("WaterTest");

    public static void main(String[] args) {
        zones();
        opening();
        leaks();
        programmes();
        wrongProgrammes();
        whatAZoneTells();
        filling();
        resets();
        resetsThatGoOn();
        due.end();
    }

    private static void zones() {
        FieldPumps x = new FieldPumps();
        due.is(x.zone(0), Stations.INVALID);
        due.is(x.zone(1001), Stations.INVALID);
        due.is(x.zone(Integer.MIN_VALUE), Stations.INVALID);
        due.is(x.count(9), 0);
        due.is(x.zone(1), 0);
        due.is(x.zone(1000), 1);
        for (int i = 2; i < 8; i++) {
            due.is(x.zone(10 * i), i);
        }
        due.is(x.zone(5), Stations.LIMIT);
        due.is(x.zone(0), Stations.INVALID);
        due.is(x.count(1), 8);
        due.is(x.zoneOf(1, 0), 1000);
        due.is(x.zoneOf(7, 0), 70);
    }

    private static void opening() {
        FieldPumps x = new FieldPumps();
        due.is(x.open(0, 1), Stations.INVALID);
        x.zone(100);
        x.zone(100);
        due.is(x.open(-1, 1), Stations.INVALID);
        due.is(x.open(2, 1), Stations.INVALID);
        due.is(x.open(0, 2), Stations.INVALID);
        due.is(x.open(0, -1), Stations.INVALID);
        due.is(x.open(0, 0), Stations.NOT_POSSIBLE);
        due.is(x.count(9), 2);
        due.is(x.open(0, 1), 1);
        due.is(x.open(0, 1), Stations.NOT_POSSIBLE);
        due.is(x.open(1, 1), 2);
        due.is(x.count(3), 2);
        due.is(x.open(0, 0), 1);
        due.is(x.zoneOf(0, 1), 0);
        due.is(x.zoneOf(1, 1), 1);
        due.is(x.count(3), 1);
    }

    private static void leaks() {
        FieldPumps x = Stations.underPressure(999);
        due.is(x.leak(-1), Stations.INVALID);
        due.is(x.leak(1001), Stations.INVALID);
        due.is(x.leak(500), 0);
        due.is(x.station(3), 499);
        due.is(x.leak(1000), 500);
        due.is(x.station(3), 999);
        due.is(x.leak(0), 1000);
        due.is(x.station(3), 0);
        due.is(x.leak(0), 0);
    }

    private static void programmes() {
        FieldPumps x = new FieldPumps();
        x.zone(100);
        x.zone(100);
        due.is(x.programme(0, 0, 1439), 1);
        due.is(x.programme(1, 1439, 0), 2);
        due.is(x.programme(1, 10, 20), 3);
        due.is(x.zoneOf(0, 3), 1);
        due.is(x.zoneOf(1, 3), 2);
        for (int i = 4; i <= 8; i++) {
            due.is(x.programme(0, 100 + i, 200 + i), i);
        }
        due.is(x.programme(0, 30, 40), Stations.LIMIT);
        due.is(x.programme(0, 30, 30), Stations.INVALID);
        due.is(x.programme(2, 30, 40), Stations.INVALID);
        due.is(x.count(2), 8);
        due.is(x.zoneOf(0, 3), 6);
    }

    private static void wrongProgrammes() {
        FieldPumps x = new FieldPumps();
        due.is(x.programme(0, 10, 20), Stations.INVALID);
        x.zone(100);
        due.is(x.programme(-1, 10, 20), Stations.INVALID);
        due.is(x.programme(1, 10, 20), Stations.INVALID);
        due.is(x.programme(0, -1, 20), Stations.INVALID);
        due.is(x.programme(0, 1440, 20), Stations.INVALID);
        due.is(x.programme(0, 10, -1), Stations.INVALID);
        due.is(x.programme(0, 10, 1440), Stations.INVALID);
        due.is(x.programme(0, 10, 10), Stations.INVALID);
        due.is(x.count(2), 0);
        due.is(x.count(9), 1);
    }

    private static void whatAZoneTells() {
        FieldPumps x = Stations.underPressure(100);
        due.is(x.zone(399), 0);
        due.is(x.zone(3), 1);
        due.is(x.zoneOf(0, 0), 399);
        due.is(x.zoneOf(0, 1), 0);
        due.is(x.zoneOf(0, 2), 0);
        due.is(x.zoneOf(0, 3), 0);
        x.open(0, 1);
        due.is(x.zoneOf(0, 1), 1);
        due.is(x.zoneOf(0, 2), 99);
        due.is(x.zoneOf(-1, 0), Stations.INVALID);
        due.is(x.zoneOf(2, 0), Stations.INVALID);
        due.is(x.zoneOf(0, -1), Stations.INVALID);
        due.is(x.zoneOf(0, 4), Stations.INVALID);
        due.is(x.zoneOf(Integer.MIN_VALUE, 0), Stations.INVALID);
        // Each part is rounded by itself: 99.75 + 0.75 + 0.9.
        x.open(1, 1);
        x.leak(9);
        due.is(x.station(3), 99);
    }

    private static void filling() {
        FieldPumps x = new FieldPumps();
        due.is(x.fill(-1), Stations.INVALID);
        due.is(x.fill(20001), Stations.INVALID);
        due.is(x.station(1), 10000);
        due.is(x.count(9), 0);
        due.is(x.fill(0), 10000);
        due.is(x.fill(20000), 0);
        due.is(x.station(1), 20000);
        due.is(x.fill(7), 20000);
    }

    /** Without refill, and dry at the time 2. */
    private static FieldPumps tripped() {
        FieldPumps x = new FieldPumps();
        x.set(14, 0);
        x.fill(0);
        x.pass(2);
        due.is(x.station(6), 1);
        due.is(x.station(7), 1);
        return x;
    }

    private static void resets() {
        FieldPumps x = new FieldPumps();
        due.is(x.reset(), Stations.NOT_POSSIBLE);
        due.is(x.count(9), 0);
        x = tripped();
        due.is(x.reset(), 1);
        due.is(x.station(7), 0);
        due.is(x.station(6), 1);
        due.is(x.count(6), 1);
        due.is(x.reset(), Stations.NOT_POSSIBLE);
        x.fill(2000);
        due.is(x.reset(), Stations.NOT_POSSIBLE);
        due.is(x.station(6), 1);
        x.pass(1);
        due.is(x.station(6), 0);
    }

    private static void resetsThatGoOn() {
        FieldPumps x = tripped();
        x.fill(1999);
        x.reset();
        due.is(x.station(6), 1);
        x = tripped();
        x.fill(2000);
        due.is(x.station(6), 1);
        due.is(x.reset(), 1);
        due.is(x.station(6), 0);
        due.is(x.eventAt(0, 0), 5);
        due.is(x.eventAt(0, 1), 2);
        due.is(x.eventAt(0, 2), Stations.NOT_FOUND);
        // A station that is not dry does not go on once more.
        x = tripped();
        x.fill(2000);
        x.pass(1);
        due.is(x.station(6), 0);
        due.is(x.station(7), 1);
        due.is(x.count(6), 2);
        due.is(x.reset(), 1);
        due.is(x.count(6), 2);
    }
}
