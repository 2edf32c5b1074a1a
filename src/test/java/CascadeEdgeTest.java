/** Edges of "A minute", 6 a to e: speed, waking, minutes in a row, starts, stops, sleep and rotation. */
public final class CascadeEdgeTest {
    private static final Due due = new Due("CascadeEdgeTest");

    public static void main(String[] args) {
        ramp();
        speedBetweenItsBounds();
        gainRoundedTowardZero();
        leastSpeedThatIsSet();
        wakeBand();
        wakingOfNone();
        wakingCounts();
        minutesToStartByPressure();
        minutesToStartBySpeed();
        minutesToStopByPressure();
        minutesToStopBySpeed();
        minutesToSleepBySupply();
        minutesToSleepBySpeed();
        minutesToSleepOfOneAlone();
        noneRuns();
        asManyMinutesToStart();
        asManyMinutesToStop();
        asManyMinutesToSleep();
        moreThanAreSet();
        noneIsReady();
        atLeastTwoToStop();
        stoppedByMinutes();
        sleepWhenAStopIsDue();
        due.end();
    }

    /** The speed behind a minute with this pressure, of a variable one that was started at a speed. */
    private static int speed(int started, int least, int setpoint, int gain, int ramp, int pressure) {
        FieldPumps x = Stations.variable(started);
        due.is(x.pumpOf(0, 4), started);
        x.set(4, least);
        x.set(0, setpoint);
        x.set(2, gain);
        x.set(3, ramp);
        x.fill(pressure);
        x.pass(1);
        due.is(x.station(0), pressure);
        return x.pumpOf(0, 4);
    }

    /** "changes its speed by (setpoint - pressure) * gain / 100, but by no more than the ramp up or down" */
    private static void ramp() {
        due.is(speed(500, 300, 400, 100, 50, 400), 500);
        due.is(speed(500, 300, 400, 100, 50, 351), 549);
        due.is(speed(500, 300, 400, 100, 50, 350), 550);
        due.is(speed(500, 300, 400, 100, 50, 349), 550);
        due.is(speed(500, 300, 400, 100, 50, 0), 550);
        due.is(speed(500, 300, 400, 100, 50, 449), 451);
        due.is(speed(500, 300, 400, 100, 50, 450), 450);
        due.is(speed(500, 300, 400, 100, 50, 451), 450);
        due.is(speed(500, 300, 400, 100, 50, 700), 450);
        // The least and the greatest ramp.
        due.is(speed(500, 300, 400, 100, 1, 399), 501);
        due.is(speed(500, 300, 400, 100, 1, 398), 501);
        due.is(speed(500, 300, 400, 100, 1, 401), 499);
        due.is(speed(500, 300, 400, 100, 1, 402), 499);
        due.is(speed(300, 300, 900, 100, 500, 401), 799);
        due.is(speed(300, 300, 900, 100, 500, 400), 800);
        due.is(speed(300, 300, 900, 100, 500, 399), 800);
        due.is(speed(900, 300, 100, 100, 500, 599), 401);
        due.is(speed(900, 300, 100, 100, 500, 600), 400);
        due.is(speed(900, 300, 100, 100, 500, 601), 400);
    }

    /** "it stays between the least speed and 1000" */
    private static void speedBetweenItsBounds() {
        due.is(speed(500, 460, 400, 100, 500, 439), 461);
        due.is(speed(500, 460, 400, 100, 500, 440), 460);
        due.is(speed(500, 460, 400, 100, 500, 441), 460);
        due.is(speed(500, 460, 400, 100, 500, 700), 460);
        due.is(speed(501, 300, 900, 100, 500, 402), 999);
        due.is(speed(501, 300, 900, 100, 500, 401), 1000);
        due.is(speed(501, 300, 900, 100, 500, 400), 1000);
        due.is(speed(900, 300, 900, 100, 500, 0), 1000);
        // At the bounds already.
        due.is(speed(500, 500, 400, 100, 500, 401), 500);
        due.is(speed(500, 500, 400, 100, 500, 399), 501);
    }

    /** "A number divided by another one is rounded toward 0.": also one below 0 */
    private static void gainRoundedTowardZero() {
        int[][] speeds = {{400, 500}, {301, 500}, {300, 501}, {201, 501}, {200, 502}, {101, 502},
            {100, 503}, {499, 500}, {500, 499}, {599, 499}, {600, 498}};
        for (int[] row : speeds) {
            due.is(speed(500, 300, 400, 1, 500, row[0]), row[1]);
        }
        due.is(speed(500, 300, 400, 0, 500, 0), 500);
        due.is(speed(500, 300, 400, 0, 500, 700), 500);
        due.is(speed(500, 300, 400, 99, 500, 399), 500);
        due.is(speed(500, 300, 400, 99, 500, 398), 501);
        due.is(speed(500, 300, 400, 99, 500, 401), 500);
        due.is(speed(500, 300, 400, 99, 500, 402), 499);
    }

    /** "A least speed that has been set greater is held at the next a." */
    private static void leastSpeedThatIsSet() {
        for (int least = 499; least <= 501; least++) {
            FieldPumps x = Stations.variable(500);
            x.set(2, 0);
            x.set(4, least);
            due.is(x.pumpOf(0, 4), 500);
            x.pass(1);
            due.is(x.pumpOf(0, 4), Math.max(500, least));
        }
        // One whose a is left out, as it is started behind it or the station is dry, has none to hold.
        FieldPumps x = Stations.variable(500);
        x.set(4, 900);
        x.set(11, 1);
        x.set(13, 1);
        x.pass(1);
        due.is(x.station(6), 1);
        due.is(x.pumpOf(0, 4), 0);
    }

    /** "If no pump runs, and the pressure is below the setpoint minus the wake band, and one is ready" */
    private static void wakeBand() {
        for (int pressure = 338; pressure <= 342; pressure++) {
            FieldPumps x = Stations.resting(pressure);
            x.pass(1);
            due.is(x.station(0), pressure);
            due.is(x.station(5), pressure < 340 ? 1 : 0);
            due.is(x.pumpOf(0, 8), pressure < 340 ? 2 : 1);
            due.is(x.eventAt(0, 0), pressure < 340 ? 3 : 1);
        }
        // Setpoint, wake band, pressure: the ends of the settings.
        int[][] edges = {{100, 100, 0, 0}, {100, 99, 0, 1}, {100, 300, 0, 0}, {900, 1, 898, 1},
            {900, 1, 899, 0}, {900, 300, 599, 1}, {900, 300, 600, 0}, {100, 1, 98, 1}, {100, 1, 99, 0}};
        for (int[] edge : edges) {
            FieldPumps x = Stations.resting(edge[2]);
            x.set(0, edge[0]);
            x.set(9, edge[1]);
            due.is(x.foreseeEvent(3), edge[3] == 1 ? 1 : Stations.NOT_FOUND);
            x.pass(1);
            due.is(x.station(5), edge[3]);
        }
    }

    /** None that is ready, or one that runs: no waking. */
    private static void wakingOfNone() {
        FieldPumps x = Stations.resting(0);
        x.service(0, 0);
        int events = x.count(6);
        x.pass(9);
        due.is(x.station(5), 0);
        due.is(x.count(6), events);
        x.service(0, 1);
        x.pass(1);
        due.is(x.station(5), 1);
        due.is(x.count(6), events + 2);
        x.pump(0, 400, 1000);
        x.set(5, 60);
        x.pass(9);
        due.is(x.station(5), 1);
        due.is(x.count(6), events + 2);
    }

    /** "A b that starts a pump does not keep c from counting": so d may start one more, or stop it. */
    private static void wakingCounts() {
        FieldPumps x = new FieldPumps();
        x.pump(0, 400, 1000);
        x.pump(0, 400, 1000);
        x.set(5, 1);
        x.pass(1);
        due.is(x.station(5), 2);
        due.is(x.eventAt(0, 0), 0);
        due.is(x.eventAt(1, 0), 3);
        due.is(x.eventAt(2, 0), 0);
        // Sleeping in the minute of waking, and waking in the next one.
        x = new FieldPumps();
        x.pump(1, 400, 1000);
        x.set(8, 1);
        x.pass(1);
        due.is(x.station(5), 0);
        due.is(x.eventAt(0, 0), 2);
        due.is(x.eventAt(1, 0), 1);
        due.is(x.eventAt(2, 0), 3);
        due.is(x.eventAt(3, 0), 0);
        due.is(x.pumpOf(0, 6), 0);
        x.pass(1);
        due.is(x.pumpOf(0, 8), 2);
        // Minutes that went on ahead of it go on.
        x = Stations.variable(500);
        due.is(x.station(13), 1);
        x.service(0, 0);
        x.service(0, 1);
        due.is(x.station(13), 1);
        x.pass(1);
        due.is(x.station(5), 1);
        due.is(x.station(13), 2);
    }

    /** "the minutes to start go on if the pressure is below the setpoint minus the band" */
    private static void minutesToStartByPressure() {
        for (int pressure = 378; pressure <= 382; pressure++) {
            FieldPumps x = Stations.underPressure(pressure);
            due.is(x.station(11), pressure < 380 ? 2 : 0);
            due.is(x.station(12), 0);
            due.is(x.station(13), 0);
            x.pass(1);
            due.is(x.station(11), pressure < 380 ? 3 : 0);
        }
        int[][] edges = {{100, 100, 0, 0}, {100, 99, 0, 1}, {900, 1, 898, 1}, {900, 1, 899, 0},
            {900, 100, 799, 1}, {900, 100, 800, 0}};
        for (int[] edge : edges) {
            FieldPumps x = Stations.giving(1);
            due.is(x.station(11), 1);
            x.set(0, edge[0]);
            x.set(1, edge[1]);
            x.fill(edge[2]);
            x.pass(1);
            due.is(x.station(11), edge[3] == 1 ? 2 : 0);
        }
    }

    /** "and besides either there is no variable pump or its speed is 1000" */
    private static void minutesToStartBySpeed() {
        for (int pressure = 400; pressure <= 403; pressure++) {
            FieldPumps x = Stations.variable(501);
            x.set(0, 900);
            Stations.quick(x);
            x.fill(pressure);
            x.pass(1);
            due.is(x.pumpOf(0, 4), Math.min(1000, 501 + Math.min(500, 900 - pressure)));
            due.is(x.station(11), pressure <= 401 ? 1 : 0);
        }
        // At 1000 the pressure is asked as of one without.
        for (int pressure = 798; pressure <= 801; pressure++) {
            FieldPumps x = Stations.variable(900);
            x.set(0, 900);
            x.set(1, 100);
            Stations.quick(x);
            x.fill(pressure);
            x.pass(1);
            due.is(x.station(11), pressure < 800 ? 1 : 0);
        }
    }

    /** "the minutes to stop if the pressure is above the setpoint plus the band" */
    private static void minutesToStopByPressure() {
        for (int pressure = 418; pressure <= 422; pressure++) {
            FieldPumps x = Stations.underPressure(pressure);
            due.is(x.station(12), pressure > 420 ? 1 : 0);
            due.is(x.station(11), 0);
            x.pass(1);
            due.is(x.station(12), pressure > 420 ? 2 : 0);
        }
        int[][] edges = {{100, 1, 101, 0}, {100, 1, 102, 1}, {100, 100, 200, 0}, {100, 100, 201, 1},
            {900, 100, 1000, 0}, {900, 100, 1001, 1}, {900, 1, 901, 0}, {900, 1, 902, 1}};
        for (int[] edge : edges) {
            FieldPumps x = Stations.giving(1);
            x.set(0, edge[0]);
            x.set(1, edge[1]);
            x.fill(edge[2]);
            x.pass(1);
            due.is(x.station(12), edge[3]);
        }
    }

    /** "and besides either there is no variable pump or its speed is the least speed" */
    private static void minutesToStopBySpeed() {
        for (int pressure = 438; pressure <= 442; pressure++) {
            FieldPumps x = Stations.variable(500);
            x.set(4, 460);
            Stations.quick(x);
            x.fill(pressure);
            x.pass(1);
            due.is(x.pumpOf(0, 4), Math.max(460, 900 - pressure));
            due.is(x.station(12), pressure >= 440 ? 1 : 0);
        }
        for (int pressure = 419; pressure <= 422; pressure++) {
            FieldPumps x = Stations.variable(500);
            x.set(2, 0);
            x.fill(pressure);
            x.pass(1);
            due.is(x.station(12), pressure > 420 ? 1 : 0);
        }
    }

    /** "and the supply is less than the sleep flow" */
    private static void minutesToSleepBySupply() {
        int[][] supplies = {{60, 58, 2}, {60, 59, 2}, {60, 60, 0}, {60, 61, 0}, {0, 0, 0}, {1, 0, 2},
            {1, 1, 0}, {707, 706, 2}, {707, 707, 0}, {1000, 707, 2}};
        for (int[] row : supplies) {
            FieldPumps x = Stations.variable(500);
            due.is(x.station(13), 1);
            x.set(2, 0);
            x.set(7, row[0]);
            x.fill(row[1]);
            x.pass(1);
            due.is(x.station(2), row[1]);
            due.is(x.station(13), row[2]);
        }
    }

    /** "its speed is the least speed" */
    private static void minutesToSleepBySpeed() {
        for (int least = 498; least <= 502; least++) {
            FieldPumps x = Stations.variable(500);
            x.set(2, 0);
            x.set(4, least);
            x.pass(1);
            due.is(x.station(13), least < 500 ? 0 : 2);
        }
    }

    /** "if just one pump runs, it is the variable one" */
    private static void minutesToSleepOfOneAlone() {
        FieldPumps x = Stations.variable(500);
        x.pump(0, 100, 1000);
        Stations.quick(x);
        x.set(5, 1);
        x.pass(2);
        due.is(x.station(5), 2);
        due.is(x.pumpOf(0, 4), 1000);
        // Down to the least speed, with a pressure that lets neither start nor stop go on.
        x.set(0, 100);
        x.set(1, 100);
        x.fill(200);
        x.pass(1);
        due.is(x.station(0), 200);
        x.pass(9);
        due.is(x.pumpOf(0, 4), 500);
        due.is(x.station(2), 0);
        due.is(x.station(5), 2);
        due.is(x.station(13), 0);
        x.service(1, 0);
        x.pass(1);
        due.is(x.station(13), 1);
        // A fixed one alone is no variable one.
        x.service(1, 1);
        x.service(0, 0);
        x.set(0, 500);
        x.pass(5);
        due.is(x.station(5), 1);
        due.is(x.pumpOf(1, 4), 1000);
        due.is(x.station(13), 0);
    }

    /** "If no pump runs, all three begin anew at 0." */
    private static void noneRuns() {
        FieldPumps x = Stations.underPressure(379);
        due.is(x.station(11), 2);
        x.service(0, 0);
        due.is(x.station(11), 2);
        x.pass(1);
        due.is(x.station(11), 0);
        x = Stations.underPressure(421);
        due.is(x.station(12), 1);
        x.service(0, 0);
        due.is(x.station(12), 1);
        x.pass(1);
        due.is(x.station(12), 0);
        x = Stations.variable(500);
        due.is(x.station(13), 1);
        x.service(0, 0);
        due.is(x.station(13), 1);
        x.pass(1);
        due.is(x.station(13), 0);
    }

    /** "If the minutes to start are as many as is set" */
    private static void asManyMinutesToStart() {
        for (int minutes : new int[] {1, 2, 3, 60}) {
            FieldPumps x = new FieldPumps();
            for (int i = 0; i < 3; i++) {
                x.pump(0, 400, 1000);
            }
            x.set(5, minutes);
            Stations.keepInTank(x, 0);
            // It wakes in the first minute, which counts.
            for (int started = 2; started <= 3; started++) {
                if (minutes > 1) {
                    x.pass(minutes - 1);
                    due.is(x.station(5), started - 1);
                    due.is(x.station(11), minutes - 1);
                }
                x.pass(1);
                due.is(x.station(5), started);
                // "Behind each of these three all three begin anew at 0."
                due.is(x.station(11), 0);
                due.is(x.eventAt(0, 0), 0);
                due.is(x.eventAt(0, 1), minutes * (started - 1));
                due.is(x.eventAt(0, 2), started - 1);
            }
        }
    }

    /** Fixed ones that all run, at the time 1, with pressure 0. */
    private static FieldPumps allFixed(int pumps) {
        FieldPumps x = new FieldPumps();
        x.set(5, 1);
        x.set(10, 1);
        Stations.keepInTank(x, 0);
        for (int i = 0; i < pumps; i++) {
            x.pump(0, 2000, 1);
            x.pass(1);
            due.is(x.station(5), i + 1);
        }
        return x;
    }

    /** "Otherwise .., if the minutes to stop are" */
    private static void asManyMinutesToStop() {
        for (int minutes : new int[] {1, 2, 5, 60}) {
            FieldPumps x = allFixed(2);
            x.set(6, minutes);
            x.fill(421);
            int begin = x.count(7);
            for (int left = 1; left >= 0; left--) {
                if (minutes > 1) {
                    x.pass(minutes - 1);
                    due.is(x.station(5), left + 1);
                    due.is(x.station(12), minutes - 1);
                }
                x.pass(1);
                due.is(x.station(5), left);
                due.is(x.station(12), 0);
                due.is(x.eventAt(0, 0), 1);
                due.is(x.eventAt(0, 1), begin + minutes * (2 - left));
            }
        }
    }

    /** "Otherwise, if the minutes to sleep are, the pump is stopped: the station sleeps." */
    private static void asManyMinutesToSleep() {
        for (int minutes : new int[] {1, 2, 4, 60}) {
            FieldPumps x = new FieldPumps();
            x.pump(2, 2000, 1);
            x.set(2, 0);
            x.set(8, minutes);
            Stations.keepInTank(x, 0);
            due.is(x.foreseeEvent(2), minutes);
            if (minutes > 1) {
                x.pass(minutes - 1);
                due.is(x.station(5), 1);
                due.is(x.station(13), minutes - 1);
            }
            x.pass(1);
            due.is(x.station(5), 0);
            due.is(x.station(13), 0);
            due.is(x.station(4), Stations.NOT_FOUND);
            due.is(x.eventAt(0, 0), 2);
            due.is(x.eventAt(0, 1), minutes);
            due.is(x.eventAt(1, 0), 1);
            due.is(x.eventAt(1, 1), minutes);
            due.is(x.eventAt(1, 2), 0);
        }
    }

    /** "as many as is set, or more": as fewer have been set, at the next minute if they go on. */
    private static void moreThanAreSet() {
        FieldPumps x = Stations.giving(1);
        x.pump(0, 400, 1000);
        x.set(5, 60);
        x.pass(9);
        due.is(x.station(11), 10);
        x.set(5, 3);
        due.is(x.station(5), 1);
        x.fill(380);
        x.pass(1);
        due.is(x.station(11), 0);
        due.is(x.station(5), 1);
        x.undo();
        x.undo();
        due.is(x.station(11), 10);
        x.pass(1);
        due.is(x.station(5), 2);
        x = Stations.underPressure(421);
        x.set(6, 60);
        x.pass(9);
        due.is(x.station(12), 10);
        x.set(6, 3);
        due.is(x.station(5), 1);
        x.pass(1);
        due.is(x.station(5), 0);
        x = Stations.variable(500);
        x.set(2, 0);
        x.set(8, 60);
        x.pass(9);
        due.is(x.station(13), 10);
        x.set(8, 3);
        due.is(x.station(5), 1);
        x.pass(1);
        due.is(x.station(5), 0);
        due.is(x.eventAt(0, 0), 2);
    }

    /** "and one is ready": else they go on */
    private static void noneIsReady() {
        FieldPumps x = Stations.giving(1);
        x.pump(0, 400, 1000);
        x.service(1, 0);
        x.pass(1);
        due.is(x.station(11), 2);
        x.pass(1);
        due.is(x.station(11), 3);
        x.pass(7);
        due.is(x.station(11), 10);
        due.is(x.station(5), 1);
        x.service(1, 1);
        due.is(x.station(5), 1);
        x.pass(1);
        due.is(x.station(5), 2);
        due.is(x.station(11), 0);
    }

    /** "and at least two pumps run or there is no variable pump" */
    private static void atLeastTwoToStop() {
        // The variable one alone, at the least speed and high pressure, with a supply of 500, then 0.
        FieldPumps x = Stations.variable(500);
        x.set(2, 0);
        x.set(6, 1);
        x.set(8, 60);
        x.fill(500);
        x.pass(9);
        due.is(x.station(12), 9);
        due.is(x.station(5), 1);
        // A fixed one besides, which is stopped, then the variable one alone again.
        x = Stations.variable(500);
        x.pump(0, 2000, 1);
        Stations.quick(x);
        x.set(5, 1);
        x.pass(2);
        due.is(x.station(5), 2);
        x.set(6, 2);
        x.fill(1000);
        x.pass(1);
        due.is(x.station(0), 1000);
        due.is(x.pumpOf(0, 4), 500);
        due.is(x.station(12), 1);
        x.pass(1);
        due.is(x.station(5), 1);
        due.is(x.station(4), 0);
        due.is(x.station(12), 0);
        due.is(x.eventAt(0, 2), 1);
        x.set(8, 60);
        x.pass(9);
        due.is(x.station(5), 1);
        due.is(x.station(12), 9);
    }

    /** "the one with the most minutes run (of equal ones the lowest number)" */
    private static void stoppedByMinutes() {
        // Each runs a minute more than the next one, so that they stop in their order.
        FieldPumps x = allFixed(4);
        due.is(x.pumpOf(0, 6), 3);
        due.is(x.pumpOf(3, 6), 0);
        x.set(6, 1);
        x.fill(421);
        for (int pump = 0; pump < 4; pump++) {
            x.pass(1);
            due.is(x.eventAt(0, 0), 1);
            due.is(x.eventAt(0, 2), pump);
        }
        // Equal ones: those that are started in one minute.
        x = new FieldPumps();
        x.set(5, 1);
        x.set(10, 1);
        Stations.keepInTank(x, 0);
        x.pump(0, 2000, 1);
        x.pump(0, 2000, 1);
        x.pass(1);
        due.is(x.station(5), 2);
        x.set(6, 1);
        x.fill(421);
        x.pass(1);
        due.is(x.eventAt(0, 2), 0);
        due.is(x.pumpOf(1, 4), 1000);
        // One minute more, of the greater number.
        x = allFixed(1);
        x.pump(0, 2000, 1);
        x.service(0, 0);
        x.pass(2);
        x.service(0, 1);
        x.pass(1);
        due.is(x.pumpOf(0, 6), 0);
        due.is(x.pumpOf(1, 6), 2);
        x.set(6, 1);
        x.fill(421);
        x.pass(1);
        due.is(x.eventAt(0, 0), 1);
        due.is(x.eventAt(0, 2), 1);
        due.is(x.station(5), 1);
    }

    /** A variable one that runs alone is not stopped, but "otherwise, if the minutes to sleep are .." */
    private static void sleepWhenAStopIsDue() {
        FieldPumps x = Stations.variable(500);
        x.set(2, 0);
        x.set(6, 1);
        x.set(8, 3);
        x.fill(500);
        x.pass(1);
        due.is(x.station(12), 1);
        due.is(x.station(13), 0);
        x.pass(2);
        due.is(x.station(12), 3);
        due.is(x.station(13), 2);
        due.is(x.station(5), 1);
        x.pass(1);
        due.is(x.station(5), 0);
        due.is(x.station(12), 0);
        due.is(x.station(13), 0);
        due.is(x.eventAt(0, 0), 2);
    }
}
