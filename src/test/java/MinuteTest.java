/** Promise 16, pass, and the section "A minute": programmes, water, nights and dryness. */
public final class MinuteTest {
    private static final Due due = new Due("MinuteTest");

    public static void main(String[] args) {
        passing();
        latestTime();
        programmesOpenAndClose();
        programmesInTheirOrder();
        programmesEachDay();
        supply();
        refill();
        pressure();
        pressureByThePressureAsItWas();
        nights();
        nightsBeyondTheDay();
        nightFlowBeginsAnewAloneAtItsEnd();
        sevenNights();
        leakAlarms();
        leakAlarmsByTheLatestNight();
        dryMinutes();
        trips();
        threeTrips();
        minutesBeginAnewWhenDry();
        tripAndGoingOnInOneMinute();
        asManyAsThereMayBe();
        due.end();
    }

    private static void passing() {
        FieldPumps x = new FieldPumps();
        due.is(x.pass(0), Stations.INVALID);
        due.is(x.pass(-1), Stations.INVALID);
        due.is(x.pass(241), Stations.INVALID);
        due.is(x.pass(Integer.MAX_VALUE), Stations.INVALID);
        due.is(x.pass(Integer.MIN_VALUE), Stations.INVALID);
        due.is(x.count(7), 0);
        due.is(x.count(9), 0);
        due.is(x.pass(1), 1);
        due.is(x.pass(240), 241);
        due.is(x.count(7), 241);
        due.is(x.count(9), 2);
    }

    private static void latestTime() {
        FieldPumps x = new FieldPumps();
        Stations.passLong(x, 19990);
        due.is(x.count(8), 19990 - 13 * 1440);
        due.is(x.pass(11), Stations.LIMIT);
        due.is(x.pass(241), Stations.INVALID);
        due.is(x.count(7), 19990);
        due.is(x.pass(10), 20000);
        due.is(x.pass(1), Stations.LIMIT);
        due.is(x.foresee(1440, 1), 20000);
    }

    private static void programmesOpenAndClose() {
        FieldPumps x = new FieldPumps();
        x.zone(100);
        x.zone(100);
        x.programme(1, 3, 5);
        x.pass(2);
        due.is(x.zoneOf(1, 1), 0);
        x.pass(1);
        due.is(x.zoneOf(1, 1), 1);
        due.is(x.zoneOf(0, 1), 0);
        x.pass(1);
        due.is(x.zoneOf(1, 1), 1);
        x.pass(1);
        due.is(x.zoneOf(1, 1), 0);
        // One that is open already stays so, and one that is closed.
        x.programme(0, 7, 8);
        x.open(0, 1);
        x.pass(2);
        due.is(x.zoneOf(0, 1), 1);
        x.open(0, 0);
        x.pass(1);
        due.is(x.zoneOf(0, 1), 0);
    }

    private static void programmesInTheirOrder() {
        FieldPumps x = new FieldPumps();
        x.zone(100);
        x.programme(0, 1, 3);
        x.programme(0, 3, 6);
        x.pass(3);
        due.is(x.zoneOf(0, 1), 1);
        x = new FieldPumps();
        x.zone(100);
        x.programme(0, 3, 6);
        x.programme(0, 1, 3);
        x.pass(3);
        due.is(x.zoneOf(0, 1), 0);
    }

    private static void programmesEachDay() {
        FieldPumps x = new FieldPumps();
        x.zone(100);
        x.programme(0, 0, 2);
        x.pass(1);
        due.is(x.zoneOf(0, 1), 0);
        Stations.passLong(x, 1438);
        due.is(x.zoneOf(0, 1), 0);
        x.pass(1);
        due.is(x.count(7), 1440);
        due.is(x.count(8), 0);
        due.is(x.zoneOf(0, 1), 1);
        x.pass(2);
        due.is(x.zoneOf(0, 1), 0);
        Stations.passLong(x, 1438);
        due.is(x.zoneOf(0, 1), 1);
    }

    private static void supply() {
        FieldPumps x = Stations.giving(200);
        due.is(x.station(2), 0);
        x.fill(10000);
        x.pass(1);
        due.is(x.station(2), 1414);
        due.is(x.station(1), 8586);
        due.is(x.station(14), 1414);
        due.is(x.pumpOf(0, 6), 1);
        x.fill(1000);
        x.pass(1);
        due.is(x.station(2), 1000);
        due.is(x.station(1), 0);
        due.is(x.station(14), 2414);
        x.pass(1);
        due.is(x.station(2), 0);
        due.is(x.pumpOf(0, 6), 3);
        // The sum of two pumps, which is no more than the level either.
        x = Stations.giving(200);
        x.pump(0, 1000, 1000);
        x.fill(0);
        x.pass(2);
        due.is(x.station(5), 2);
        x.fill(10000);
        x.pass(1);
        due.is(x.station(2), 1414 + 31);
        x.fill(1420);
        x.pass(1);
        due.is(x.station(2), 1420);
    }

    private static void refill() {
        FieldPumps x = new FieldPumps();
        x.pass(1);
        due.is(x.station(1), 10300);
        x.set(14, 1000);
        x.fill(19500);
        x.pass(1);
        due.is(x.station(1), 20000);
        // The supply leaves it ahead of the refill.
        x = Stations.giving(200);
        x.set(14, 1000);
        x.fill(400);
        x.pass(1);
        due.is(x.station(2), 400);
        due.is(x.station(1), 1000);
        x = Stations.giving(200);
        x.set(14, 1000);
        x.fill(20000);
        x.pass(1);
        due.is(x.station(1), 19586);
    }

    private static void pressure() {
        FieldPumps x = Stations.giving(20);
        x.fill(59);
        x.pass(1);
        due.is(x.station(0), 2);
        x = Stations.underPressure(100);
        due.is(x.station(0), 100);
        x.pass(1);
        due.is(x.station(0), 100);
        // A fall of 30 / 20 is rounded toward 0, too.
        x.set(10, 20);
        x.zone(120);
        x.open(0, 1);
        x.pass(1);
        due.is(x.station(0), 99);
        // It is never less than 0, nor more than 2000.
        x = Stations.underPressure(100);
        x.zone(1000);
        x.open(0, 1);
        x.pass(1);
        due.is(x.station(0), 0);
        x = Stations.underPressure(1000);
        x.fill(20000);
        x.pass(1);
        due.is(x.station(2), 1000);
        due.is(x.station(0), 2000);
    }

    private static void pressureByThePressureAsItWas() {
        // A zone that is opened in this minute takes, but by the pressure as it was.
        FieldPumps x = Stations.underPressure(100);
        x.zone(40);
        x.programme(0, 3, 4);
        x.leak(100);
        x.fill(50);
        x.pass(1);
        due.is(x.station(0), 100 + 50 - 10 - 10);
        due.is(x.station(3), 13 + 13);
        // One that is closed in it takes nothing.
        x.pass(1);
        due.is(x.station(0), 130 - 13);
    }

    private static void nights() {
        FieldPumps x = Stations.giving(200);
        x.set(15, 3);
        x.set(16, 2);
        x.fill(10);
        x.pass(1);
        due.is(x.station(9), 0);
        x.fill(20);
        x.pass(1);
        due.is(x.station(9), 20);
        due.is(x.count(5), 0);
        due.is(x.nightAt(0), Stations.NOT_FOUND);
        x.fill(40);
        x.pass(1);
        due.is(x.station(9), 0);
        due.is(x.count(5), 1);
        due.is(x.nightAt(0), 60);
        due.is(x.nightAt(1), Stations.NOT_FOUND);
        due.is(x.nightAt(-1), Stations.INVALID);
        due.is(x.nightAt(Integer.MIN_VALUE), Stations.INVALID);
        due.is(x.nightAt(Integer.MAX_VALUE), Stations.NOT_FOUND);
        x.fill(80);
        x.pass(1);
        due.is(x.station(9), 0);
        due.is(x.count(5), 1);
    }

    private static void nightsBeyondTheDay() {
        FieldPumps x = Stations.giving(200);
        x.set(15, 1439);
        x.set(16, 2);
        Stations.passLong(x, 1437);
        due.is(x.station(9), 0);
        due.is(x.count(5), 0);
        x.fill(10);
        x.pass(1);
        due.is(x.count(8), 1439);
        due.is(x.station(9), 10);
        x.fill(20);
        x.pass(1);
        due.is(x.count(8), 0);
        due.is(x.nightAt(0), 30);
        due.is(x.station(9), 0);
        x.fill(40);
        x.pass(1);
        due.is(x.station(9), 0);
        due.is(x.count(5), 1);
    }

    private static void nightFlowBeginsAnewAloneAtItsEnd() {
        FieldPumps x = Stations.giving(200);
        x.set(15, 2);
        x.set(16, 100);
        x.fill(7);
        x.pass(1);
        due.is(x.station(9), 7);
        x.set(15, 1000);
        x.fill(8);
        x.pass(1);
        due.is(x.station(9), 7);
        // The begin of another night does not drop it.
        Stations.night(x, 5);
        due.is(x.nightAt(0), 12);
    }

    private static void sevenNights() {
        FieldPumps x = Stations.giving(200);
        for (int i = 1; i <= 7; i++) {
            Stations.night(x, i);
            due.is(x.count(5), i);
        }
        due.is(x.nightAt(6), 1);
        Stations.night(x, 8);
        due.is(x.count(5), 7);
        due.is(x.nightAt(0), 8);
        due.is(x.nightAt(6), 2);
        due.is(x.nightAt(7), Stations.NOT_FOUND);
    }

    private static void leakAlarms() {
        FieldPumps x = Stations.giving(200);
        x.set(17, 50);
        Stations.night(x, 200);
        Stations.night(x, 100);
        // Two alone have been noted before.
        Stations.night(x, 300);
        due.is(x.station(10), 0);
        // The middle one of 100, 200 and 300.
        Stations.night(x, 250);
        due.is(x.station(10), 0);
        // The lower middle one of 100, 200, 250 and 300.
        Stations.night(x, 251);
        due.is(x.station(10), 1);
        due.is(x.eventAt(0, 0), 6);
        due.is(x.eventAt(0, 1), x.count(7));
        due.is(x.eventAt(0, 2), Stations.NOT_FOUND);
        // The middle one of 100, 200, 250, 251 and 300.
        Stations.night(x, 300);
        due.is(x.station(10), 1);
        Stations.night(x, 302);
        due.is(x.station(10), 2);
        // Equal ones: of 100, 200, 250, 251, 300, 300 and 302 it is 251.
        Stations.night(x, 301);
        due.is(x.station(10), 2);
        // The oldest, 200, is no more among 100, 250, 251, 300, 300, 301 and 302.
        Stations.night(x, 350);
        due.is(x.station(10), 2);
        due.is(x.nightAt(0), 350);
        Stations.night(x, 353);
        due.is(x.station(10), 3);
    }

    private static void leakAlarmsByTheLatestNight() {
        int[][] orders = {{100, 300, 200}, {200, 100, 300}, {100, 200, 300}, {200, 200, 300},
            {100, 200, 200}, {400, 300, 200, 100}};
        for (int[] order : orders) {
            FieldPumps x = Stations.giving(200);
            x.set(17, 50);
            for (int flow : order) {
                Stations.night(x, flow);
            }
            due.is(x.station(10), 0);
            Stations.night(x, 250);
            due.is(x.station(10), 0);
            x.undo();
            x.fill(251);
            x.pass(1);
            due.is(x.station(10), 1);
            // All of it is undone.
            due.is(x.count(5), order.length + 1);
            x.undo();
            due.is(x.station(10), 0);
            due.is(x.count(5), order.length);
            due.is(x.nightAt(0), order[order.length - 1]);
            due.is(x.nightAt(1), order[order.length - 2]);
        }
        FieldPumps x = Stations.giving(200);
        x.set(15, 1);
        x.fill(7);
        x.pass(1);
        due.is(x.station(9), 7);
        x.undo();
        due.is(x.station(9), 0);
    }

    private static void minutesBeginAnewWhenDry() {
        FieldPumps x = new FieldPumps();
        x.pump(0, 400, 1000);
        x.set(14, 0);
        x.fill(100);
        x.pass(1);
        due.is(x.station(11), 1);
        x.pass(1);
        due.is(x.station(6), 1);
        due.is(x.station(11), 0);
        x = Stations.underPressure(421);
        due.is(x.station(12), 1);
        x.set(11, 500);
        x.set(13, 1);
        x.pass(1);
        due.is(x.station(6), 1);
        due.is(x.station(12), 0);
        // Undone with all minutes in a row.
        x.undo();
        due.is(x.station(12), 1);
        due.is(x.station(6), 0);
        due.is(x.station(8), 0);
    }

    private static void asManyAsThereMayBe() {
        FieldPumps x = new FieldPumps();
        for (int i = 0; i < 6; i++) {
            due.is(x.pump(i % 3, 400, 10), i);
        }
        for (int i = 0; i < 8; i++) {
            due.is(x.zone(50), i);
            due.is(x.programme(i, 100 + i, 200 + i), i + 1);
        }
        x.set(16, 1);
        x.set(18, 10);
        x.set(9, 20);
        due.is(x.pass(107), 107);
        due.is(x.count(3), 8);
        due.is(x.pass(100), 207);
        due.is(x.count(3), 0);
        Stations.passLong(x, 8 * 1440);
        due.is(x.count(5), 7);
        due.is(x.count(6), 12);
        due.isTrue("it can be asked", !Stations.all(x).isEmpty());
        for (int kind = 0; kind < 8; kind++) {
            due.isTrue("it foretells", x.foreseeEvent(kind) != 0);
        }
    }

    /** Without pumps and refill. */
    private static FieldPumps still(int level) {
        FieldPumps x = new FieldPumps();
        x.set(14, 0);
        x.fill(level);
        return x;
    }

    private static void dryMinutes() {
        FieldPumps x = still(500);
        x.pass(3);
        due.is(x.station(8), 0);
        x.fill(499);
        x.pass(1);
        due.is(x.station(8), 1);
        due.is(x.station(6), 0);
        x.fill(500);
        x.pass(1);
        due.is(x.station(8), 0);
        x.fill(499);
        x.pass(2);
        due.is(x.station(8), 2);
        due.is(x.station(6), 1);
        // They go on while it is dry.
        x.pass(3);
        due.is(x.station(8), 5);
        x.fill(500);
        x.pass(1);
        due.is(x.station(8), 0);
        due.is(x.station(6), 1);
        // The level behind the refill is asked.
        x = still(300);
        x.set(14, 200);
        x.pass(1);
        due.is(x.station(8), 0);
    }

    private static void trips() {
        FieldPumps x = new FieldPumps();
        x.pump(0, 400, 1000);
        x.pump(1, 400, 1000);
        x.set(5, 2);
        x.set(14, 0);
        x.pass(3);
        due.is(x.station(5), 2);
        due.is(x.station(4), 1);
        x.fill(100);
        x.pass(1);
        // 100 - 39 of the fixed one and the variable one.
        due.is(x.station(6), 0);
        x.pass(1);
        due.is(x.station(6), 1);
        due.is(x.station(7), 1);
        due.is(x.station(5), 0);
        due.is(x.station(4), Stations.NOT_FOUND);
        due.is(x.eventAt(0, 0), 4);
        due.is(x.eventAt(0, 1), 5);
        due.is(x.eventAt(0, 2), Stations.NOT_FOUND);
        due.is(x.eventAt(1, 0), 1);
        due.is(x.eventAt(1, 2), 1);
        due.is(x.eventAt(2, 0), 1);
        due.is(x.eventAt(2, 2), 0);
        due.is(x.station(11), 0);
        x.pass(2);
        due.is(x.station(5), 0);
        due.is(x.station(7), 1);
        x.fill(1999);
        x.pass(1);
        due.is(x.station(6), 1);
        x.fill(2000);
        x.pass(1);
        due.is(x.station(6), 0);
        due.is(x.station(7), 1);
        // It goes on and wakes in one minute.
        due.is(x.eventAt(0, 0), 3);
        due.is(x.eventAt(1, 0), 0);
        due.is(x.eventAt(2, 0), 5);
        due.is(x.eventAt(2, 2), Stations.NOT_FOUND);
    }

    private static void threeTrips() {
        FieldPumps x = still(0);
        for (int trip = 1; trip <= 3; trip++) {
            x.fill(0);
            x.pass(2);
            due.is(x.station(6), 1);
            due.is(x.station(7), trip);
            x.fill(2000);
            x.pass(1);
            due.is(x.station(6), trip < 3 ? 0 : 1);
        }
        x.pass(10);
        due.is(x.station(6), 1);
        due.is(x.reset(), 3);
        due.is(x.station(6), 0);
        due.is(x.eventAt(0, 0), 5);
    }

    private static void tripAndGoingOnInOneMinute() {
        FieldPumps x = new FieldPumps();
        x.pump(0, 400, 1000);
        x.set(14, 0);
        x.set(11, 10000);
        x.set(12, 0);
        x.fill(9000);
        x.pass(1);
        due.is(x.station(11), 1);
        // Stop, trip, going on, start and waking; the minutes to start go on.
        x.pass(1);
        due.is(x.station(6), 0);
        due.is(x.station(7), 1);
        due.is(x.station(11), 2);
        due.is(x.eventAt(0, 0), 3);
        due.is(x.eventAt(1, 0), 0);
        due.is(x.eventAt(2, 0), 5);
        due.is(x.eventAt(3, 0), 4);
        due.is(x.eventAt(4, 0), 1);
        due.is(x.eventAt(4, 1), 2);
        due.is(x.pumpOf(0, 7), 0);
        due.is(x.pumpOf(0, 6), 1);
    }
}
