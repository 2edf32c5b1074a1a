/** Edges of the sections "Water" and "A minute", 1 to 3 and 5: programmes, supply, pressure, dryness. */
public final class WaterEdgeTest {
    private static final Due due = new Due("WaterEdgeTest");

    public static void main(String[] args) {
        programmeOfADay();
        programmesBeyondTheDay();
        programmesOfOneMinute();
        programmesAndCalls();
        supplyNoMoreThanTheLevel();
        supplyOfAnEmptyTank();
        fullTank();
        minutesRun();
        takenByAZone();
        takenByTheLeak();
        eachRoundedByItself();
        pressureIsDivided();
        pressureStaysInItsRange();
        leastLevel();
        minutesToRunDry();
        fewerMinutesToRunDry();
        dryMinutesWhileItIsDry();
        levelToGoOn();
        fewerThanThreeTrips();
        resetAtTheLevel();
        minutesBeginAnewWhenDry();
        nothingElseIsDone();
        due.end();
    }

    private static FieldPumps withZone() {
        FieldPumps x = new FieldPumps();
        x.zone(100);
        return x;
    }

    /** "a programme whose first minute is this minute of the day opens its zone, one whose second .." */
    private static void programmeOfADay() {
        FieldPumps x = withZone();
        x.programme(0, 5, 8);
        for (int day = 0; day <= 2; day++) {
            Stations.passLong(x, day * 1440 + 4 - x.count(7));
            due.is(x.zoneOf(0, 1), 0);
            for (int minute = 5; minute <= 9; minute++) {
                due.is(x.pass(1), day * 1440 + minute);
                due.is(x.zoneOf(0, 1), minute < 8 ? 1 : 0);
                due.is(x.count(3), minute < 8 ? 1 : 0);
            }
        }
    }

    /** The first minute may be behind the second one, and both at the ends of the day. */
    private static void programmesBeyondTheDay() {
        FieldPumps x = withZone();
        x.zone(100);
        x.zone(100);
        x.programme(0, 1439, 0);
        x.programme(1, 0, 1439);
        x.programme(2, 1438, 1);
        // The time 0 was no minute that has gone by.
        int[][] open = {{1437, 0, 0, 0}, {1438, 0, 0, 1}, {1439, 1, 0, 1}, {1440, 0, 1, 1},
            {1441, 0, 1, 0}, {2877, 0, 1, 0}, {2878, 0, 1, 1}, {2879, 1, 0, 1}, {2880, 0, 1, 1}};
        x.pass(1);
        due.is(x.count(3), 0);
        for (int[] due4 : open) {
            Stations.passLong(x, due4[0] - x.count(7));
            due.is(x.count(7), due4[0]);
            for (int zone = 0; zone < 3; zone++) {
                due.is(x.zoneOf(zone, 1), due4[1 + zone]);
            }
        }
    }

    /** "In the order of the programmes": the last one of those of a minute is kept. */
    private static void programmesOfOneMinute() {
        int[][][] programmes = {{{1, 3}, {3, 9}}, {{3, 9}, {1, 3}}, {{3, 9}, {1, 3}, {3, 4}},
            {{1, 3}, {3, 9}, {2, 3}}};
        int[] open = {1, 0, 1, 0};
        for (int i = 0; i < programmes.length; i++) {
            FieldPumps x = withZone();
            for (int[] programme : programmes[i]) {
                x.programme(0, programme[0], programme[1]);
            }
            x.pass(2);
            due.is(x.pass(1), 3);
            due.is(x.zoneOf(0, 1), open[i]);
        }
    }

    /** One that is open already stays so, and is closed by a programme; a call may be behind it. */
    private static void programmesAndCalls() {
        FieldPumps x = withZone();
        x.programme(0, 2, 4);
        x.open(0, 1);
        x.pass(1);
        due.is(x.zoneOf(0, 1), 1);
        x.pass(1);
        due.is(x.zoneOf(0, 1), 1);
        due.is(x.open(0, 1), Stations.NOT_POSSIBLE);
        due.is(x.open(0, 0), 0);
        x.pass(1);
        due.is(x.zoneOf(0, 1), 0);
        due.is(x.open(0, 1), 1);
        x.pass(1);
        due.is(x.zoneOf(0, 1), 0);
        due.is(x.open(0, 0), Stations.NOT_POSSIBLE);
        // A programme that is added in its minute waits for the next day.
        x.programme(0, 4, 10);
        due.is(x.zoneOf(0, 1), 0);
        x.pass(6);
        due.is(x.zoneOf(0, 1), 0);
    }

    /** "The supply is the sum of the flows of the pumps that run, .. but no more than the level." */
    private static void supplyNoMoreThanTheLevel() {
        // The flow at pressure 0 is 1414.
        int[][] levels = {{0, 0}, {1, 1}, {1413, 1413}, {1414, 1414}, {1415, 1414}, {20000, 1414}};
        for (int[] level : levels) {
            FieldPumps x = Stations.giving(200);
            x.fill(level[0]);
            due.is(x.foresee(1, 4), level[1]);
            x.pass(1);
            due.is(x.station(2), level[1]);
            due.is(x.station(1), level[0] - level[1]);
            due.is(x.station(14), level[1]);
            due.is(x.station(0), level[1] / 200);
        }
    }

    /** The refill of a minute comes behind its supply. */
    private static void supplyOfAnEmptyTank() {
        FieldPumps x = Stations.giving(200);
        x.set(14, 1000);
        x.pass(1);
        due.is(x.station(2), 0);
        due.is(x.station(1), 1000);
        x.pass(1);
        due.is(x.station(2), 1000);
        due.is(x.station(1), 1000);
        x.set(14, 0);
        x.pass(1);
        due.is(x.station(2), 1000);
        due.is(x.station(1), 0);
        x.pass(1);
        due.is(x.station(2), 0);
        due.is(x.station(1), 0);
        due.is(x.station(14), 2000);
    }

    /** "then the refill comes into it (20000 at most)" */
    private static void fullTank() {
        int[][] levels = {{19000, 1000, 20000}, {18999, 1000, 19999}, {19001, 1000, 20000},
            {20000, 0, 20000}, {20000, 1, 20000}, {20000, 1000, 20000}, {0, 0, 0}, {0, 1000, 1000}};
        for (int[] level : levels) {
            FieldPumps x = new FieldPumps();
            x.set(14, level[1]);
            x.fill(level[0]);
            x.pass(1);
            due.is(x.station(1), level[2]);
        }
        // 1414 leave it ahead of a refill of 1000.
        int[][] supplied = {{20000, 19586}, {19999, 19585}, {1414, 1000}, {1415, 1001}};
        for (int[] level : supplied) {
            FieldPumps x = Stations.giving(200);
            x.set(14, 1000);
            x.fill(level[0]);
            x.pass(1);
            due.is(x.station(1), level[1]);
        }
    }

    /** "Each pump that runs has run a minute more.": not in the minute of its start, and of none too. */
    private static void minutesRun() {
        FieldPumps x = Stations.giving(200);
        due.is(x.station(5), 1);
        due.is(x.pumpOf(0, 6), 0);
        due.is(x.pumpOf(0, 7), 0);
        x.pass(1);
        due.is(x.station(2), 0);
        due.is(x.pumpOf(0, 6), 1);
        due.is(x.pumpOf(0, 7), 1);
        // In the minute in which it is stopped by a trip it has run.
        x.set(11, 1);
        x.set(13, 1);
        x.pass(1);
        due.is(x.station(5), 0);
        due.is(x.pumpOf(0, 6), 2);
        due.is(x.pumpOf(0, 7), 0);
        x.pass(1);
        due.is(x.pumpOf(0, 6), 2);
    }

    /** "demand * pressure / 400 of the open zones", rounded toward 0 */
    private static void takenByAZone() {
        int[][] taken = {{1, 399, 0}, {1, 400, 1}, {1, 401, 1}, {1, 799, 1}, {1, 800, 2}, {1000, 0, 0},
            {1000, 1, 2}, {399, 1, 0}, {400, 1, 1}, {401, 1, 1}, {799, 1, 1}, {800, 1, 2},
            {1000, 1400, 3500}};
        for (int[] row : taken) {
            FieldPumps x = Stations.underPressure(row[1]);
            due.is(x.station(0), row[1]);
            x.zone(row[0]);
            due.is(x.zoneOf(0, 2), 0);
            due.is(x.station(3), 0);
            x.open(0, 1);
            due.is(x.zoneOf(0, 2), row[2]);
            due.is(x.station(3), row[2]);
            x.pass(1);
            due.is(x.station(0), Math.max(0, row[1] - row[2]));
            x.open(0, 0);
            due.is(x.zoneOf(0, 2), 0);
            due.is(x.station(3), 0);
        }
    }

    /** "leak * pressure / 1000" */
    private static void takenByTheLeak() {
        int[][] taken = {{1, 999, 0}, {1, 1000, 1}, {1, 1001, 1}, {1000, 0, 0}, {1000, 1, 1}, {999, 1, 0},
            {500, 3, 1}, {500, 4, 2}, {0, 1000, 0}, {1000, 1400, 1400}};
        for (int[] row : taken) {
            FieldPumps x = Stations.underPressure(row[1]);
            x.leak(row[0]);
            due.is(x.station(3), row[2]);
            x.pass(1);
            due.is(x.station(0), row[1] - row[2]);
        }
    }

    /** "each by the pressure as it was, and rounded by itself" */
    private static void eachRoundedByItself() {
        for (int pressure = 399; pressure <= 400; pressure++) {
            FieldPumps x = Stations.underPressure(pressure);
            for (int zone = 0; zone < 8; zone++) {
                x.zone(1);
                x.open(zone, 1);
            }
            x.leak(2);
            due.is(x.station(3), pressure < 400 ? 0 : 8);
            x.pass(1);
            due.is(x.station(0), pressure < 400 ? 399 : 392);
        }
    }

    /** "The pressure changes by (supply - demand) / capacity", "rounded toward 0" */
    private static void pressureIsDivided() {
        // Pressure 100, so that a zone of four times the demand takes it.
        int[][] changes = {{0, 0, 0}, {19, 0, 0}, {20, 0, 1}, {21, 0, 1}, {39, 0, 1}, {40, 0, 2},
            {0, 19, 0}, {0, 20, -1}, {0, 21, -1}, {0, 39, -1}, {0, 40, -2}, {19, 38, 0}, {19, 39, -1},
            {38, 19, 0}, {39, 19, 1}, {50, 50, 0}};
        for (int[] change : changes) {
            FieldPumps x = Stations.underPressure(100);
            x.set(10, 20);
            x.zone(Math.max(1, 4 * change[1]));
            x.open(0, 1);
            due.is(x.station(3), change[1]);
            x.fill(change[0]);
            due.is(x.foresee(1, 0), 100 + change[2]);
            x.pass(1);
            due.is(x.station(2), change[0]);
            due.is(x.station(0), 100 + change[2]);
        }
        // The ends of the capacity.
        for (int capacity : new int[] {1, 2, 199, 200}) {
            for (int supply : new int[] {capacity - 1, capacity, capacity + 1}) {
                FieldPumps x = Stations.giving(capacity);
                x.fill(supply);
                x.pass(1);
                due.is(x.station(0), supply / capacity);
            }
        }
    }

    /** "a pressure (0 to 2000; 0 at first)", "and stays in its range" */
    private static void pressureStaysInItsRange() {
        due.is(new FieldPumps().station(0), 0);
        int[][] falls = {{99, 1}, {100, 0}, {101, 0}, {250, 0}};
        for (int[] fall : falls) {
            FieldPumps x = Stations.underPressure(100);
            x.zone(4 * fall[0]);
            x.open(0, 1);
            x.pass(1);
            due.is(x.station(0), fall[1]);
            x.pass(1);
            due.is(x.station(0), fall[1]);
        }
        // At pressure 1200 the flow is 894 at most.
        int[][] rises = {{799, 1999}, {800, 2000}, {801, 2000}, {20000, 2000}};
        for (int[] rise : rises) {
            FieldPumps x = Stations.underPressure(1200);
            due.is(x.pumpOf(0, 9), 894);
            x.fill(rise[0]);
            x.pass(1);
            due.is(x.station(2), Math.min(894, rise[0]));
            due.is(x.station(0), rise[1]);
            due.is(x.pumpOf(0, 9), rise[1] == 1999 ? 31 : 0);
        }
    }

    /** Without pumps, and without refill. */
    private static FieldPumps still(int leastLevel, int level) {
        FieldPumps x = new FieldPumps();
        x.set(14, 0);
        x.set(11, leastLevel);
        x.fill(level);
        return x;
    }

    /** "If the level is below the least level, this is a dry minute" */
    private static void leastLevel() {
        int[][] levels = {{500, 499, 1}, {500, 500, 0}, {500, 501, 0}, {0, 0, 0}, {1, 0, 1}, {1, 1, 0},
            {10000, 9999, 1}, {10000, 10000, 0}};
        for (int[] level : levels) {
            FieldPumps x = still(level[0], level[1]);
            x.pass(1);
            due.is(x.station(8), level[2]);
            due.is(x.station(6), 0);
            // "otherwise the dry minutes in a row begin anew at 0"
            x.fill(level[0]);
            x.pass(1);
            due.is(x.station(8), 0);
        }
        // The level as it is behind the supply and the refill.
        for (int refill = 299; refill <= 300; refill++) {
            FieldPumps x = still(500, 200);
            x.set(14, refill);
            x.pass(1);
            due.is(x.station(8), refill < 300 ? 1 : 0);
        }
        for (int level = 1913; level <= 1915; level++) {
            FieldPumps x = Stations.giving(200);
            x.set(11, 500);
            x.fill(level);
            x.pass(1);
            due.is(x.station(8), level < 1914 ? 1 : 0);
        }
    }

    /** "If there are as many in a row as the minutes to run dry, or more, .. it is dry" */
    private static void minutesToRunDry() {
        for (int minutes : new int[] {1, 2, 3, 60}) {
            FieldPumps x = still(500, 499);
            x.set(13, minutes);
            due.is(x.foreseeEvent(4), minutes);
            if (minutes > 1) {
                x.pass(minutes - 1);
            }
            due.is(x.station(8), minutes - 1);
            due.is(x.station(6), 0);
            due.is(x.station(7), 0);
            due.is(x.count(6), 0);
            x.pass(1);
            due.is(x.station(8), minutes);
            due.is(x.station(6), 1);
            due.is(x.station(7), 1);
            due.is(x.count(6), 1);
            due.is(x.eventAt(0, 0), 4);
            due.is(x.eventAt(0, 1), minutes);
            // It is dry already, so this is no other trip.
            x.pass(1);
            due.is(x.station(8), minutes + 1);
            due.is(x.station(7), 1);
            due.is(x.count(6), 1);
        }
        // A minute that is not dry between them.
        FieldPumps x = still(500, 499);
        x.set(13, 3);
        x.pass(2);
        x.fill(500);
        x.pass(1);
        x.fill(499);
        x.pass(2);
        due.is(x.station(8), 2);
        due.is(x.station(6), 0);
        x.pass(1);
        due.is(x.station(6), 1);
    }

    /** More in a row than are set, as fewer have been set: at the next minute, if it is dry as well. */
    private static void fewerMinutesToRunDry() {
        FieldPumps x = still(500, 499);
        x.set(13, 60);
        x.pass(10);
        x.set(13, 10);
        due.is(x.station(6), 0);
        x.set(13, 3);
        due.is(x.station(6), 0);
        x.pass(1);
        due.is(x.station(6), 1);
        due.is(x.station(8), 11);
        due.is(x.undo(), 3);
        x.fill(500);
        x.pass(1);
        due.is(x.station(6), 0);
        due.is(x.station(8), 0);
    }

    /** "this is a dry minute (also while the station is dry)" */
    private static void dryMinutesWhileItIsDry() {
        FieldPumps x = still(500, 0);
        x.pass(100);
        due.is(x.station(8), 100);
        due.is(x.station(7), 1);
        // Above the least level, but not at the level to go on.
        x.fill(1999);
        x.pass(1);
        due.is(x.station(8), 0);
        due.is(x.station(6), 1);
        x.fill(499);
        x.pass(1);
        due.is(x.station(8), 1);
        due.is(x.station(7), 1);
        x.pass(10);
        due.is(x.station(8), 11);
        due.is(x.station(7), 1);
    }

    /** "If the level is at least the level to go on, and the station is dry, .. it is not dry any more." */
    private static void levelToGoOn() {
        int[][] levels = {{2000, 1999, 1}, {2000, 2000, 0}, {2000, 2001, 0}, {10000, 9999, 1},
            {10000, 10000, 0}, {1, 0, 1}, {1, 1, 0}};
        for (int[] level : levels) {
            FieldPumps x = still(500, 0);
            x.set(12, level[0]);
            x.pass(2);
            due.is(x.station(6), 1);
            x.set(11, 0);
            x.fill(level[1]);
            // It goes on in a minute, not by the call.
            due.is(x.station(6), 1);
            x.pass(1);
            due.is(x.station(6), level[2]);
            due.is(x.station(7), 1);
            due.is(x.count(6), 2 - level[2]);
            due.is(x.eventAt(0, 0), level[2] == 1 ? 4 : 5);
        }
        // A station that is not dry does not go on.
        FieldPumps x = still(500, 20000);
        x.pass(5);
        due.is(x.count(6), 0);
        // At the level 0 it goes on in the minute of its trip.
        x = still(500, 0);
        x.set(12, 0);
        x.pass(2);
        due.is(x.station(6), 0);
        due.is(x.station(7), 1);
        due.is(x.eventAt(0, 0), 5);
        due.is(x.eventAt(1, 0), 4);
        due.is(x.eventAt(1, 1), 2);
        // The dry minutes have not begun anew, so that the next minute is a trip.
        x.pass(1);
        due.is(x.station(8), 3);
        due.is(x.station(7), 2);
        due.is(x.station(6), 0);
    }

    /** "and there have been fewer than 3 trips since the last reset" */
    private static void fewerThanThreeTrips() {
        FieldPumps x = still(500, 0);
        x.set(12, 0);
        // A trip in each minute behind the first one.
        int[][] minutes = {{0, 0, 0}, {1, 0, 2}, {2, 0, 4}, {3, 1, 5}, {3, 1, 5}, {3, 1, 5}};
        for (int[] minute : minutes) {
            x.pass(1);
            due.is(x.station(7), minute[0]);
            due.is(x.station(6), minute[1]);
            due.is(x.count(6), minute[2]);
        }
        // However much is filled.
        x.fill(20000);
        x.pass(240);
        due.is(x.station(6), 1);
        due.is(x.foreseeEvent(5), Stations.NOT_FOUND);
        due.is(x.reset(), 3);
        due.is(x.station(6), 0);
        due.is(x.station(7), 0);
        due.is(x.reset(), Stations.NOT_POSSIBLE);
        // "there have been no trips since then": so three more may be.
        x.fill(0);
        x.pass(2);
        due.is(x.station(7), 1);
        due.is(x.station(6), 0);
        x.pass(1);
        due.is(x.station(7), 2);
        due.is(x.station(6), 0);
        x.pass(1);
        due.is(x.station(7), 3);
        due.is(x.station(6), 1);
    }

    /** "a station that is dry goes on (event 5) if its level is at least the level to go on" */
    private static void resetAtTheLevel() {
        for (int level = 1999; level <= 2001; level++) {
            for (int trips = 1; trips <= 3; trips++) {
                FieldPumps x = still(500, 0);
                x.set(12, 0);
                x.pass(trips);
                x.set(12, 2000);
                x.pass(1);
                due.is(x.station(7), trips);
                due.is(x.station(6), 1);
                x.fill(level);
                int events = x.count(6);
                due.is(x.reset(), trips);
                due.is(x.station(6), level < 2000 ? 1 : 0);
                due.is(x.station(7), 0);
                due.is(x.count(6), level < 2000 ? events : events + 1);
                due.is(x.eventAt(0, 0), level < 2000 ? 4 : 5);
                due.is(x.eventAt(0, 1), trips + 1);
                due.is(x.count(7), trips + 1);
            }
        }
    }

    /** "If the station is dry, all minutes in a row that are told below begin anew at 0" */
    private static void minutesBeginAnewWhenDry() {
        FieldPumps[] stations = {Stations.underPressure(379), Stations.underPressure(421),
            Stations.variable(500)};
        for (int i = 0; i < 3; i++) {
            FieldPumps x = stations[i];
            due.isTrue("they have begun", x.station(11 + i) > 0);
            int begun = x.station(11 + i);
            x.set(2, 0);
            x.set(6, 60);
            x.set(11, 1);
            // Dry minutes do not yet.
            x.pass(1);
            due.is(x.station(8), 1);
            due.is(x.station(6), 0);
            due.is(x.station(11 + i), begun + 1);
            x.pass(1);
            due.is(x.station(8), 2);
            due.is(x.station(6), 1);
            for (int what = 11; what <= 13; what++) {
                due.is(x.station(what), 0);
            }
            x.pass(3);
            due.is(x.station(11 + i), 0);
        }
    }

    /** "If the station is dry, .. nothing else is done." */
    private static void nothingElseIsDone() {
        FieldPumps x = new FieldPumps();
        x.pump(1, 700, 20);
        x.pump(0, 650, 30);
        x.set(14, 0);
        x.fill(0);
        x.pass(1);
        due.is(x.station(5), 1);
        x.pass(1);
        due.is(x.station(6), 1);
        due.is(x.station(5), 0);
        // The pressure is 0, but none wakes; time, programmes and refill go on.
        x.zone(10);
        x.programme(0, 4, 9);
        x.set(14, 10);
        int events = x.count(6);
        x.pass(50);
        due.is(x.station(5), 0);
        due.is(x.count(6), events);
        due.is(x.count(7), 52);
        due.is(x.station(1), 500);
        due.is(x.station(8), 0);
        due.is(x.foreseeEvent(3), 150);
        x.pass(149);
        due.is(x.station(5), 0);
        x.pass(1);
        due.is(x.station(1), 2000);
        due.is(x.station(5), 1);
        due.is(x.eventAt(0, 0), 3);
        due.is(x.eventAt(2, 0), 5);
    }
}
