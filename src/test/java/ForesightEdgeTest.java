/** Edges of events and of what is foretold: in the last minute ahead of an event, in it and behind it. */
public final class ForesightEdgeTest {
    private static final Due due = new Due("ForesightEdgeTest");

    public static void main(String[] args) {
        startAndWaking();
        stopAndSleep();
        stopOfAFixedOne();
        tripAndGoingOn();
        leakAlarm();
        rotation();
        eventsOfNow();
        firstMinute();
        variableOne();
        eachMinuteOfADay();
        due.end();
    }

    /**
     * The first event of the kind is foretold for so many minutes, in each minute up to it, and comes
     * then; it has this pump, or none.
     */
    private static void foretold(FieldPumps x, int kind, int minutes, int pump) {
        int time = x.count(7);
        for (int left = minutes; left >= 1; left--) {
            due.is(x.foreseeEvent(kind), left);
            due.isTrue("none yet", x.eventAt(0, 1) != time + minutes);
            due.is(x.pass(1), time + minutes - left + 1);
        }
        for (int index = 0; index < x.count(6); index++) {
            if (x.eventAt(index, 0) == kind) {
                due.is(x.eventAt(index, 1), time + minutes);
                due.is(x.eventAt(index, 2), pump);
                return;
            }
        }
        due.isTrue("event " + kind, false);
    }

    /** "0 a pump was started", "3 it wakes (behind the start)" */
    private static void startAndWaking() {
        // 342 falls by a leak of 1 in a minute to 341, 340 and 339.
        for (int kind = 0; kind <= 3; kind += 3) {
            FieldPumps x = Stations.resting(342);
            x.leak(3);
            foretold(x, kind, 3, kind == 0 ? 0 : Stations.NOT_FOUND);
            due.is(x.eventAt(0, 0), 3);
            due.is(x.eventAt(1, 0), 0);
            due.is(x.station(0), 339);
        }
    }

    /** "1 a pump was stopped", "2 the station sleeps (behind the stop)" */
    private static void stopAndSleep() {
        for (int kind = 1; kind <= 2; kind++) {
            FieldPumps x = Stations.variable(500);
            x.set(2, 0);
            foretold(x, kind, 3, kind == 1 ? 0 : Stations.NOT_FOUND);
            due.is(x.eventAt(0, 0), 2);
            due.is(x.eventAt(1, 0), 1);
        }
    }

    private static void stopOfAFixedOne() {
        FieldPumps x = Stations.underPressure(421);
        foretold(x, 1, 4, 0);
        due.is(x.eventAt(0, 0), 1);
        due.is(x.foreseeEvent(1), Stations.NOT_FOUND);
        due.is(x.foreseeEvent(2), Stations.NOT_FOUND);
    }

    /** "4 a trip (behind the stops, in the order of numbers), 5 it is not dry any more" */
    private static void tripAndGoingOn() {
        FieldPumps x = new FieldPumps();
        x.set(5, 1);
        x.set(11, 0);
        x.set(14, 0);
        for (int pump = 0; pump < 3; pump++) {
            x.pump(0, 400, 1000);
            x.pass(1);
        }
        x.set(11, 500);
        x.set(13, 3);
        x.fill(0);
        foretold(x, 4, 3, Stations.NOT_FOUND);
        due.is(x.eventAt(0, 0), 4);
        for (int pump = 0; pump < 3; pump++) {
            due.is(x.eventAt(3 - pump, 0), 1);
            due.is(x.eventAt(3 - pump, 2), pump);
        }
        x.set(14, 500);
        foretold(x, 5, 4, Stations.NOT_FOUND);
        due.is(x.station(6), 0);
        due.is(x.foreseeEvent(4), Stations.NOT_FOUND);
    }

    /** "6 a leak alarm" */
    private static void leakAlarm() {
        FieldPumps x = Stations.giving(200);
        x.set(17, 0);
        for (int night = 0; night < 3; night++) {
            Stations.night(x, 0);
        }
        x.set(15, x.count(8) + 1);
        x.set(16, 4);
        x.fill(1);
        foretold(x, 6, 4, Stations.NOT_FOUND);
        due.is(x.station(10), 1);
    }

    /** "7 a rotation (behind its start, ahead of its stop; of the pump that is started)" */
    private static void rotation() {
        FieldPumps x = Stations.variable(500);
        x.pump(0, 2000, 1);
        x.pump(2, 2000, 1);
        x.set(2, 0);
        x.set(7, 0);
        x.set(18, 5);
        foretold(x, 7, 5, 2);
        int[][] events = {{1, 0}, {7, 2}, {0, 2}};
        for (int i = 0; i < events.length; i++) {
            due.is(x.eventAt(i, 0), events[i][0]);
            due.is(x.eventAt(i, 2), events[i][1]);
        }
    }

    /** An event of the present time has been already: the next one is told, or none. */
    private static void eventsOfNow() {
        FieldPumps x = new FieldPumps();
        x.pump(0, 400, 1000);
        x.set(5, 60);
        due.is(x.foreseeEvent(0), 1);
        due.is(x.foreseeEvent(3), 1);
        x.pass(1);
        due.is(x.foreseeEvent(0), Stations.NOT_FOUND);
        due.is(x.foreseeEvent(3), Stations.NOT_FOUND);
        x.service(0, 0);
        due.is(x.eventAt(0, 1), 1);
        due.is(x.foreseeEvent(1), Stations.NOT_FOUND);
        x.service(0, 1);
        due.is(x.foreseeEvent(0), 1);
        due.is(x.foreseeEvent(3), 1);
    }

    /** At the time 0 no event has been, so that one of the time 0 is none. */
    private static void firstMinute() {
        FieldPumps x = new FieldPumps();
        for (int kind = 0; kind <= 7; kind++) {
            due.is(x.foreseeEvent(kind), Stations.NOT_FOUND);
        }
        x.set(13, 1);
        x.set(14, 0);
        x.fill(0);
        due.is(x.foreseeEvent(4), 1);
        due.is(x.foresee(1, 1), 0);
        due.is(x.count(7), 0);
        due.is(x.count(6), 0);
    }

    /** "NOT_FOUND for 3 if there is none": up to the waking, and from sleep on */
    private static void variableOne() {
        FieldPumps x = Stations.resting(341);
        x.service(0, 0);
        x.pump(1, 2000, 1);
        x.leak(3);
        x.set(2, 0);
        x.set(0, 400);
        due.is(x.foresee(1, 3), Stations.NOT_FOUND);
        due.is(x.foresee(1, 2), 0);
        due.is(x.foresee(2, 3), 1);
        due.is(x.foresee(2, 2), 1);
        // Waking counts as the first of four minutes to sleep.
        due.is(x.foresee(4, 3), 1);
        due.is(x.foresee(5, 3), Stations.NOT_FOUND);
        due.is(x.foresee(5, 2), 0);
        due.is(x.foresee(6, 3), 1);
        due.is(x.foresee(0, 3), Stations.INVALID);
        due.is(x.foresee(1441, 3), Stations.INVALID);
        due.is(x.station(4), Stations.NOT_FOUND);
    }

    /** What is foretold for a minute is what is so then. */
    private static void eachMinuteOfADay() {
        int[] told = {0, 1, 5, 4, 2};
        for (int what = 0; what <= 4; what++) {
            FieldPumps x = Stations.busy();
            int[] foretold = new int[1440];
            for (int minutes = 1; minutes <= 100; minutes++) {
                foretold[minutes - 1] = x.foresee(minutes, what);
            }
            foretold[1439] = x.foresee(1440, what);
            for (int minutes = 1; minutes <= 100; minutes++) {
                x.pass(1);
                due.is(foretold[minutes - 1], x.station(told[what]));
            }
            Stations.passLong(x, 1340);
            due.is(foretold[1439], x.station(told[what]));
        }
    }
}
