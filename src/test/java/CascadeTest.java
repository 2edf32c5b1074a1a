/** Promise 16, pass, and of the section "A minute" what the pumps do: 6 a to e. */
public final class CascadeTest {
    private static final Due due = new Due("CascadeTest");

    public static void main(String[] args) {
        speedOfTheVariableOne();
        speedInItsBounds();
        waking();
        minutesToStart();
        minutesToStartOfAVariableOne();
        startingVariableOnes();
        startingNone();
        minutesToStop();
        minutesToStopOfAVariableOne();
        bandThatIsSet();
        stoppingTheOneWithTheMostMinutes();
        equalMinutesToStop();
        variableOneIsNotStopped();
        sleeping();
        minutesToSleep();
        rotation();
        rotationToTheFewestMinutes();
        due.end();
    }

    /** A variable pump that gives 15 litres a minute at pressure 0 and the speed 500. */
    private static FieldPumps slow() {
        FieldPumps x = new FieldPumps();
        x.pump(1, 1000, 1000);
        x.set(10, 1);
        return x;
    }

    private static void speedOfTheVariableOne() {
        FieldPumps x = slow();
        x.pass(1);
        // Started behind a, so at the least speed.
        due.is(x.pumpOf(0, 4), 500);
        x.pass(1);
        due.is(x.station(0), 15);
        due.is(x.pumpOf(0, 4), 577);
        x.pass(1);
        due.is(x.station(0), 32);
        due.is(x.pumpOf(0, 4), 650);
        x.set(2, 100);
        x.pass(1);
        due.is(x.pumpOf(0, 4), 750);
        x.set(3, 7);
        x.pass(1);
        due.is(x.pumpOf(0, 4), 757);
        x.set(2, 0);
        x.pass(1);
        due.is(x.pumpOf(0, 4), 757);
    }

    private static void speedInItsBounds() {
        FieldPumps x = slow();
        x.set(2, 100);
        x.set(3, 500);
        x.pass(2);
        // 500 + 385, then no more than 1000.
        due.is(x.pumpOf(0, 4), 885);
        x.pass(1);
        due.is(x.pumpOf(0, 4), 1000);
        x.set(4, 900);
        due.is(x.pumpOf(0, 4), 1000);
        // Of high pressure it goes down by the ramp, no lower than the least speed.
        x = new FieldPumps();
        x.pump(1, 2000, 1);
        x.set(10, 1);
        x.set(2, 100);
        x.set(3, 30);
        x.pass(1);
        x.set(0, 900);
        x.set(4, 400);
        x.pass(1);
        // 707 litres at the speed 500: (900 - 707), no more than 30.
        due.is(x.station(0), 707);
        due.is(x.pumpOf(0, 4), 530);
        x.set(0, 400);
        x.pass(1);
        due.is(x.pumpOf(0, 4), 500);
        x.set(3, 500);
        x.pass(1);
        due.is(x.pumpOf(0, 4), 400);
        // A least speed that has been set greater is held at the next a.
        x.set(4, 600);
        due.is(x.pumpOf(0, 4), 400);
        x.pass(1);
        due.is(x.pumpOf(0, 4), 600);
    }

    private static void waking() {
        FieldPumps x = Stations.underPressure(340);
        x.service(0, 0);
        x.service(0, 1);
        x.pass(1);
        due.is(x.station(5), 0);
        x.set(9, 59);
        x.pass(1);
        due.is(x.station(5), 1);
        due.is(x.pumpOf(0, 8), 2);
        due.is(x.eventAt(0, 0), 3);
        due.is(x.eventAt(0, 1), 4);
        due.is(x.eventAt(0, 2), Stations.NOT_FOUND);
        due.is(x.eventAt(1, 0), 0);
        due.is(x.eventAt(1, 1), 4);
        due.is(x.eventAt(1, 2), 0);
        // It counts in the minute in which it wakes.
        due.is(x.station(11), 1);
        // A jockey is the first to wake, at the least speed.
        x = new FieldPumps();
        x.pump(0, 400, 1000);
        x.pump(2, 400, 1000);
        x.set(4, 350);
        x.pass(1);
        due.is(x.station(4), 1);
        due.is(x.pumpOf(1, 4), 350);
        due.is(x.pumpOf(0, 4), 0);
        // Without pumps none wakes.
        x = new FieldPumps();
        x.pass(5);
        due.is(x.count(6), 0);
    }

    private static void minutesToStart() {
        FieldPumps x = new FieldPumps();
        x.pump(0, 400, 1000);
        x.pump(0, 400, 1000);
        x.pump(0, 400, 1000);
        x.pass(2);
        due.is(x.station(11), 2);
        due.is(x.station(5), 1);
        x.pass(1);
        due.is(x.station(11), 0);
        due.is(x.station(5), 2);
        due.is(x.pumpOf(1, 4), 1000);
        due.is(x.eventAt(0, 0), 0);
        due.is(x.eventAt(0, 1), 3);
        due.is(x.eventAt(0, 2), 1);
        x.pass(3);
        due.is(x.station(5), 3);
        due.is(x.eventAt(0, 2), 2);
        // Not below the setpoint minus the band they begin anew.
        x = Stations.underPressure(380);
        due.is(x.station(11), 0);
        x = Stations.underPressure(379);
        due.is(x.station(11), 2);
        // More than are set, as they have been set fewer.
        x = new FieldPumps();
        x.pump(0, 400, 1000);
        x.pump(0, 400, 1000);
        x.set(5, 60);
        x.pass(10);
        due.is(x.station(11), 10);
        x.set(5, 4);
        x.pass(1);
        due.is(x.station(5), 2);
    }

    private static void minutesToStartOfAVariableOne() {
        FieldPumps x = slow();
        x.pump(0, 400, 1000);
        x.set(2, 100);
        x.set(3, 499);
        x.set(10, 200);
        // 500, then 900 (by the pressure 0), then 1000: counted at 1000 alone.
        x.pass(1);
        due.is(x.station(11), 0);
        x.pass(1);
        due.is(x.pumpOf(0, 4), 900);
        due.is(x.station(11), 0);
        x.pass(1);
        due.is(x.pumpOf(0, 4), 1000);
        due.is(x.station(11), 1);
        x.pass(2);
        due.is(x.station(5), 2);
        // The fixed one that was started leaves the variable one as it is.
        due.is(x.station(4), 0);
        due.is(x.pumpOf(0, 4), 1000);
        due.is(x.pumpOf(1, 4), 1000);
        due.is(x.pumpOf(1, 5), 0);
    }

    private static void startingVariableOnes() {
        FieldPumps x = slow();
        x.pump(1, 400, 1000);
        x.set(2, 0);
        x.set(10, 200);
        x.set(4, 900);
        x.set(5, 1);
        x.pass(1);
        due.is(x.station(4), 0);
        due.is(x.pumpOf(0, 4), 900);
        // At 900 without gain it never counts; a gain brings it to 1000.
        x.pass(2);
        due.is(x.station(5), 1);
        x.set(2, 100);
        x.pass(1);
        due.is(x.station(5), 2);
        due.is(x.station(4), 1);
        due.is(x.pumpOf(1, 4), 900);
        due.is(x.pumpOf(0, 4), 1000);
        due.is(x.pumpOf(0, 5), 0);
        // A variable one behind another one that is not at 1000 yet.
        x = slow();
        x.pump(2, 400, 1000);
        x.set(2, 100);
        x.set(5, 1);
        x.set(10, 200);
        x.pass(1);
        due.is(x.station(4), 1);
        x.pass(6);
        due.is(x.station(4), 0);
        due.is(x.pumpOf(1, 4), 1000);
        due.is(x.pumpOf(0, 4) < 1000 ? 1 : 0, 1);
    }

    private static void startingNone() {
        FieldPumps x = new FieldPumps();
        x.pump(0, 400, 1000);
        x.pass(5);
        // None is ready: they do not begin anew, and go on.
        due.is(x.station(11), 5);
        x.pump(0, 400, 1000);
        due.is(x.station(11), 5);
        x.pass(1);
        due.is(x.station(5), 2);
        due.is(x.station(11), 0);
        // No pump runs: all begin anew, also if none can be started.
        x.service(0, 0);
        x.pass(1);
        due.is(x.station(11), 1);
        x.service(1, 0);
        due.is(x.station(11), 1);
        x.pass(1);
        due.is(x.station(11), 0);
    }

    private static void minutesToStop() {
        // 420 is not above the setpoint plus the band.
        FieldPumps x = Stations.underPressure(420);
        due.is(x.station(12), 0);
        x = Stations.underPressure(421);
        due.is(x.station(12), 1);
        due.is(x.station(11), 0);
        x.pass(3);
        due.is(x.station(12), 4);
        due.is(x.station(5), 1);
        x.pass(1);
        // There is no variable one, so the last one is stopped; the station does not sleep by it.
        due.is(x.station(5), 0);
        due.is(x.station(12), 0);
        due.is(x.eventAt(0, 0), 1);
        due.is(x.eventAt(0, 1), 6);
        due.is(x.eventAt(0, 2), 0);
        due.is(x.eventAt(1, 0), 3);
        x.pass(12);
        due.is(x.station(5), 0);
        due.is(x.station(12), 0);
        due.is(x.count(6), 3);
    }

    /** A variable pump alone with high pressure, at the least speed, at the time 2. */
    private static FieldPumps high() {
        FieldPumps x = new FieldPumps();
        x.pump(1, 2000, 1);
        x.set(10, 1);
        x.set(6, 2);
        x.pass(2);
        due.is(x.station(0), 707);
        due.is(x.pumpOf(0, 4), 500);
        return x;
    }

    private static void minutesToStopOfAVariableOne() {
        FieldPumps x = high();
        due.is(x.station(12), 1);
        due.is(x.station(13), 0);
        // A pump that is the variable one and runs alone is not stopped by it.
        x.pass(2);
        due.is(x.station(5), 1);
        due.is(x.station(12), 3);
        due.is(x.station(13), 2);
        x.pass(2);
        due.is(x.station(5), 0);
        due.is(x.eventAt(0, 0), 2);
        // Above the least speed they do not count.
        x = high();
        x.set(0, 600);
        x.set(4, 300);
        x.set(3, 50);
        x.pass(1);
        // 500 + (600 - 707) * 20 / 100
        due.is(x.pumpOf(0, 4), 479);
        due.is(x.station(12), 0);
        x.set(4, 479);
        x.pass(1);
        due.is(x.station(12), 1);
    }

    private static void bandThatIsSet() {
        FieldPumps x = Stations.giving(1);
        x.set(1, 50);
        x.fill(349);
        x.pass(1);
        due.is(x.station(11), 2);
        x.fill(1);
        x.pass(1);
        due.is(x.station(0), 350);
        due.is(x.station(11), 0);
        x.fill(100);
        x.pass(1);
        due.is(x.station(0), 450);
        due.is(x.station(12), 0);
        x.fill(1);
        x.pass(1);
        due.is(x.station(0), 451);
        due.is(x.station(12), 1);
    }

    /** Makes the pressure greater than setpoint plus band within three minutes at 1000 or so. */
    private static void makeHigh(FieldPumps x) {
        x.set(0, 100);
        x.set(1, 1);
        x.set(10, 1);
    }

    private static void stoppingTheOneWithTheMostMinutes() {
        // Fixed ones: 1 and 2 are started, 0 later.
        FieldPumps x = new FieldPumps();
        x.pump(0, 2000, 1000);
        x.pump(0, 2000, 1000);
        x.pump(0, 2000, 1000);
        x.set(5, 1);
        x.set(6, 1);
        x.service(0, 0);
        x.pass(3);
        due.is(x.station(5), 2);
        x.service(0, 1);
        x.pass(1);
        due.is(x.station(5), 3);
        makeHigh(x);
        // 88 / 20 in each of three minutes, then 44 litres of each.
        x.pass(1);
        due.is(x.station(0), 3 * 4 + 132);
        due.is(x.eventAt(0, 0), 1);
        due.is(x.eventAt(0, 2), 1);
        x.pass(1);
        due.is(x.eventAt(0, 2), 2);
        x.pass(1);
        due.is(x.eventAt(0, 2), 0);
        due.is(x.station(5), 0);
    }

    private static void equalMinutesToStop() {
        FieldPumps x = new FieldPumps();
        x.pump(0, 2000, 1000);
        x.pump(0, 2000, 1000);
        x.set(5, 1);
        x.set(6, 1);
        x.pass(1);
        // The minute of waking counts, so both are started in it.
        due.is(x.station(5), 2);
        makeHigh(x);
        x.pass(2);
        due.is(x.station(5), 1);
        due.is(x.eventAt(0, 0), 1);
        due.is(x.eventAt(0, 2), 0);
    }

    private static void variableOneIsNotStopped() {
        FieldPumps x = new FieldPumps();
        x.pump(1, 2000, 1000);
        x.pump(0, 2000, 1000);
        x.set(2, 100);
        x.set(3, 500);
        x.set(5, 1);
        x.set(6, 1);
        x.set(10, 200);
        x.set(4, 900);
        x.pass(2);
        // 900, then 1000: the fixed one is started.
        due.is(x.station(5), 2);
        due.is(x.pumpOf(0, 6), 1);
        due.is(x.pumpOf(1, 6), 0);
        makeHigh(x);
        x.pass(3);
        due.is(x.pumpOf(0, 4), 900);
        due.is(x.eventAt(0, 0), 1);
        due.is(x.eventAt(0, 2), 1);
        due.is(x.station(4), 0);
        due.is(x.station(5), 1);
        due.is(x.station(12), 0);
    }

    private static void sleeping() {
        FieldPumps x = slow();
        x.set(2, 0);
        x.pass(3);
        due.is(x.station(13), 3);
        due.is(x.station(5), 1);
        x.pass(1);
        due.is(x.station(13), 0);
        due.is(x.station(5), 0);
        due.is(x.station(4), Stations.NOT_FOUND);
        due.is(x.eventAt(0, 0), 2);
        due.is(x.eventAt(0, 1), 4);
        due.is(x.eventAt(0, 2), Stations.NOT_FOUND);
        due.is(x.eventAt(1, 0), 1);
        due.is(x.eventAt(1, 2), 0);
        // The pressure is low yet, so that it wakes at once.
        x.pass(1);
        due.is(x.eventAt(0, 0), 3);
        due.is(x.station(13), 1);
    }

    private static void minutesToSleep() {
        // The supply in the minute of waking is 0, then 15: not less than the sleep flow.
        FieldPumps x = slow();
        x.set(2, 0);
        x.set(7, 15);
        x.pass(1);
        due.is(x.station(13), 1);
        x.pass(1);
        due.is(x.station(2), 15);
        due.is(x.station(13), 0);
        x.set(7, 16);
        x.pass(1);
        due.is(x.station(13), 1);
        // A fixed one that runs besides.
        x.pump(0, 400, 1000);
        x.set(4, 501);
        x.pass(1);
        due.is(x.station(13), 1 + 1);
        x.set(2, 100);
        x.set(3, 500);
        x.set(5, 1);
        x.pass(2);
        due.is(x.station(5), 2);
        x.set(0, 100);
        x.pass(2);
        due.is(x.station(13), 0);
        // A fixed one alone never sleeps.
        x = new FieldPumps();
        x.pump(0, 400, 1000);
        x.fill(1000);
        x.set(7, 1000);
        x.pass(10);
        due.is(x.station(13), 0);
        due.is(x.station(5), 1);
    }

    private static void rotation() {
        FieldPumps x = slow();
        x.pump(0, 400, 1000);
        x.pump(1, 1000, 1000);
        x.set(5, 60);
        x.set(8, 60);
        x.set(10, 200);
        x.pass(3);
        // Without the setting there is none.
        due.is(x.station(4), 0);
        x.set(18, 4);
        x.pass(1);
        due.is(x.pumpOf(0, 7), 3);
        due.is(x.station(4), 0);
        int speed = x.pumpOf(0, 4);
        x.pass(1);
        due.is(x.station(4), 2);
        due.is(x.pumpOf(0, 4), 0);
        due.is(x.pumpOf(0, 6), 4);
        due.is(x.pumpOf(0, 7), 0);
        // The new one has the speed of the old one behind a: 400 * 20 / 100 more, at pressure 0.
        due.is(x.pumpOf(2, 4), speed + 80);
        due.is(x.pumpOf(2, 8), 1);
        due.is(x.station(5), 1);
        due.is(x.eventAt(0, 0), 1);
        due.is(x.eventAt(0, 2), 0);
        due.is(x.eventAt(1, 0), 7);
        due.is(x.eventAt(1, 1), 5);
        due.is(x.eventAt(1, 2), 2);
        due.is(x.eventAt(2, 0), 0);
        due.is(x.eventAt(2, 2), 2);
        due.is(x.pumpOf(1, 8), 0);
        // With equal minutes none is changed, with one more it is.
        x.pass(4);
        due.is(x.pumpOf(2, 6), 4);
        due.is(x.station(4), 2);
        x.pass(1);
        due.is(x.station(4), 0);
    }

    private static void rotationToTheFewestMinutes() {
        FieldPumps x = slow();
        x.set(5, 60);
        x.set(8, 60);
        x.set(10, 200);
        x.set(18, 2);
        x.pass(4);
        // Alone there is none to change with.
        due.is(x.station(4), 0);
        x.pump(1, 1000, 1000);
        x.pump(2, 1000, 1000);
        x.pump(1, 1000, 1000);
        x.service(1, 0);
        x.pass(1);
        // 1 is not ready; of 2 and 3 the lowest number, a jockey also.
        due.is(x.station(4), 2);
        x.pass(2);
        due.is(x.station(4), 3);
        x.pass(2);
        // 0 has run 4 minutes, 2 and 3 have run 2: none has fewer.
        due.is(x.pumpOf(2, 6), 2);
        due.is(x.pumpOf(3, 6), 2);
        due.is(x.station(4), 3);
        x.service(1, 1);
        x.pass(1);
        due.is(x.station(4), 1);
    }
}
