/** Edges of "A minute", 6 e: when the variable pump is changed, and with which one. */
public final class RotationEdgeTest {
    private static final Due due = new Due("RotationEdgeTest");

    public static void main(String[] args) {
        minutesOfTheRotation();
        notSet();
        minutesSinceTheStart();
        fewerMinutes();
        theFewestMinutes();
        onlyThoseThatMay();
        withTheSpeed();
        askedBehindAStart();
        notOfOneThatIsStartedNow();
        askedBehindAStop();
        notBehindSleep();
        notWhenDry();
        due.end();
    }

    /** A variable one alone that keeps its speed 500 and never sleeps, and others that have not run. */
    private static FieldPumps steady(int... kinds) {
        FieldPumps x = Stations.variable(500);
        x.set(2, 0);
        x.set(7, 0);
        x.pass(1);
        due.is(x.station(13), 0);
        for (int kind : kinds) {
            x.pump(kind, 2000, 1);
        }
        return x;
    }

    /** "a variable pump that has run for as many minutes as it tells, or more, since it was started" */
    private static void minutesOfTheRotation() {
        for (int minutes : new int[] {2, 3, 60, 1439, 1440}) {
            FieldPumps x = steady(1);
            x.set(18, minutes);
            due.is(x.foreseeEvent(7), minutes - 1);
            Stations.passLong(x, minutes - 2);
            due.is(x.pumpOf(0, 7), minutes - 1);
            due.is(x.station(4), 0);
            x.pass(1);
            due.is(x.station(4), 1);
            due.is(x.pumpOf(0, 6), minutes);
            due.is(x.pumpOf(0, 4), 0);
            due.is(x.eventAt(0, 0), 1);
            due.is(x.eventAt(0, 2), 0);
            due.is(x.eventAt(1, 0), 7);
            due.is(x.eventAt(1, 1), minutes + 1);
            due.is(x.eventAt(1, 2), 1);
            due.is(x.eventAt(2, 0), 0);
            due.is(x.eventAt(2, 2), 1);
            // It begins anew with the one that was started.
            due.is(x.pumpOf(1, 7), 0);
        }
        // More than it tells, as it was set late.
        FieldPumps x = steady(1);
        x.pass(9);
        x.set(18, 1);
        due.is(x.station(4), 0);
        x.pass(1);
        due.is(x.station(4), 1);
        // 1, the least: in the minute behind the start, then each minute as long as one has fewer.
        x = Stations.variable(500);
        x.set(2, 0);
        x.set(7, 0);
        x.set(18, 1);
        x.pump(1, 2000, 1);
        x.pump(1, 2000, 1);
        x.pass(1);
        due.is(x.station(4), 1);
        x.pass(1);
        due.is(x.station(4), 2);
        x.pass(1);
        // All have run a minute.
        due.is(x.station(4), 2);
        x.pass(1);
        due.is(x.station(4), 0);
    }

    /** "If the rotation is set": 0 tells none */
    private static void notSet() {
        FieldPumps x = steady(1);
        x.pass(240);
        due.is(x.station(4), 0);
        due.is(x.foreseeEvent(7), Stations.NOT_FOUND);
        x.set(18, 5);
        due.is(x.foreseeEvent(7), 1);
        x.set(18, 0);
        due.is(x.foreseeEvent(7), Stations.NOT_FOUND);
    }

    /** The minutes since it was started, not all that it has run. */
    private static void minutesSinceTheStart() {
        FieldPumps x = steady();
        x.pass(9);
        x.service(0, 0);
        x.service(0, 1);
        x.set(18, 3);
        x.pass(1);
        x.pump(1, 2000, 1);
        x.pass(2);
        due.is(x.pumpOf(0, 6), 12);
        due.is(x.pumpOf(0, 7), 2);
        due.is(x.station(4), 0);
        x.pass(1);
        due.is(x.station(4), 1);
    }

    /** "one that is ready, is not fixed and has run fewer minutes": not as many */
    private static void fewerMinutes() {
        for (int ran = 3; ran <= 6; ran++) {
            FieldPumps x = steady(1);
            x.service(0, 0);
            x.pass(ran + 1);
            due.is(x.pumpOf(1, 6), ran);
            x.service(1, 0);
            x.service(0, 1);
            x.pass(1);
            due.is(x.station(4), 0);
            x.service(1, 1);
            // The first one has run a minute already, so in the fourth one it has run five.
            x.set(18, 4);
            x.pass(3);
            due.is(x.station(4), 0);
            for (int minutes = 5; minutes <= 7; minutes++) {
                x.pass(1);
                if (minutes > ran) {
                    due.is(x.station(4), 1);
                    break;
                }
                due.is(x.pumpOf(0, 6), minutes);
                due.is(x.station(4), 0);
            }
        }
    }

    /** "of these the one with the fewest minutes run (of equal ones the lowest number)" */
    private static void theFewestMinutes() {
        int[][] ran = {{3, 2, 2, 2}, {2, 3, 3, 1}, {2, 2, 2, 1}, {3, 3, 2, 3}, {4, 3, 2, 3}, {5, 0, 1, 2}};
        for (int[] row : ran) {
            FieldPumps x = steady(1, 1, 2);
            x.service(0, 0);
            x.set(5, 60);
            for (int pump = 1; pump <= 3; pump++) {
                x.service(pump, 0);
            }
            for (int pump = 1; pump <= 3; pump++) {
                x.service(pump, 1);
                x.pass(row[pump - 1] + 1);
                x.service(pump, 0);
                due.is(x.pumpOf(pump, 6), row[pump - 1]);
            }
            x.service(0, 1);
            x.pass(20);
            x.set(18, 1);
            for (int pump = 1; pump <= 3; pump++) {
                x.service(pump, 1);
            }
            x.pass(1);
            due.is(x.station(4), row[3]);
        }
    }

    /** Fixed ones, and those that are out of service or run, are none to change with. */
    private static void onlyThoseThatMay() {
        FieldPumps x = steady(0, 1);
        x.service(2, 0);
        x.pass(9);
        x.set(18, 1);
        x.pass(9);
        due.is(x.station(4), 0);
        x.service(2, 1);
        x.pass(1);
        due.is(x.station(4), 2);
        // Two variable ones that run: the other one is at 1000, and rests not.
        x = Stations.variable(500);
        x.pump(1, 2000, 1);
        Stations.quick(x);
        x.set(5, 1);
        x.pass(2);
        due.is(x.station(5), 2);
        due.is(x.station(4), 1);
        x.set(5, 60);
        x.set(18, 1);
        x.pass(9);
        due.is(x.station(4), 1);
        due.is(x.station(5), 2);
        // None but a variable one is changed.
        x = new FieldPumps();
        x.pump(0, 400, 1000);
        x.set(5, 60);
        x.pass(9);
        x.pump(1, 400, 1000);
        x.set(18, 1);
        x.pass(9);
        due.is(x.station(4), Stations.NOT_FOUND);
        due.is(x.pumpOf(1, 8), 0);
    }

    /** "is started with the speed of the variable one": as it is behind a, at its bounds as well */
    private static void withTheSpeed() {
        for (int speed : new int[] {300, 500, 501, 900}) {
            FieldPumps x = Stations.variable(speed);
            x.set(2, 0);
            x.set(7, 0);
            x.pump(2, 2000, 1);
            x.set(18, 1);
            x.pass(1);
            due.is(x.station(4), 1);
            due.is(x.pumpOf(1, 4), speed);
            due.is(x.pumpOf(1, 8), 1);
        }
        FieldPumps x = Stations.variable(500);
        x.pump(1, 2000, 1);
        x.set(2, 100);
        x.set(3, 77);
        x.set(18, 2);
        x.pass(2);
        due.is(x.station(4), 1);
        due.is(x.pumpOf(1, 4), 654);
        // At 1000, with more than the least speed.
        x = Stations.variable(500);
        x.pump(1, 2000, 1);
        Stations.quick(x);
        x.set(18, 3);
        x.pass(3);
        due.is(x.station(4), 1);
        due.is(x.pumpOf(1, 4), 1000);
        due.is(x.pumpOf(0, 4), 0);
    }

    /** "e is asked whatever d has done": a fixed one is started, and the variable one changed. */
    private static void askedBehindAStart() {
        FieldPumps x = Stations.variable(500);
        x.pump(0, 2000, 1);
        x.pump(1, 2000, 1);
        Stations.quick(x);
        x.set(5, 1);
        x.set(18, 2);
        x.pass(1);
        due.is(x.station(5), 1);
        x.pass(1);
        due.is(x.station(5), 2);
        due.is(x.station(4), 2);
        int[][] events = {{1, 0}, {7, 2}, {0, 2}, {0, 1}, {3, Stations.NOT_FOUND}, {0, 0}};
        for (int i = 0; i < events.length; i++) {
            due.is(x.eventAt(i, 0), events[i][0]);
            due.is(x.eventAt(i, 1), i < 4 ? 3 : 1);
            due.is(x.eventAt(i, 2), events[i][1]);
        }
    }

    /** One that d starts as the variable one has not run, so it is not changed, and the old one no more. */
    private static void notOfOneThatIsStartedNow() {
        FieldPumps x = Stations.variable(500);
        x.pump(1, 2000, 1);
        x.pump(1, 2000, 1);
        Stations.quick(x);
        x.set(5, 1);
        x.pass(1);
        x.set(18, 1);
        x.pass(1);
        due.is(x.station(5), 2);
        due.is(x.station(4), 1);
        due.is(x.pumpOf(0, 4), 1000);
        due.is(x.pumpOf(2, 8), 0);
        x.pass(1);
        due.is(x.station(5), 2);
        due.is(x.station(4), 2);
        due.is(x.pumpOf(0, 4), 1000);
        due.is(x.pumpOf(1, 4), 0);
    }

    /** One that d has stopped may be started by e in the same minute. */
    private static void askedBehindAStop() {
        FieldPumps x = new FieldPumps();
        x.pump(1, 2000, 1);
        x.pump(1, 2000, 1);
        Stations.quick(x);
        x.set(8, 60);
        x.set(10, 1);
        Stations.keepInTank(x, 0);
        x.service(0, 0);
        x.pass(11);
        due.is(x.pumpOf(1, 6), 10);
        x.service(1, 0);
        x.service(0, 1);
        x.service(1, 1);
        x.set(5, 60);
        x.pass(1);
        due.is(x.station(4), 0);
        x.set(5, 1);
        x.pass(2);
        due.is(x.station(5), 2);
        due.is(x.station(4), 1);
        due.is(x.pumpOf(0, 6), 2);
        x.set(0, 100);
        x.set(1, 1);
        x.set(6, 1);
        x.set(18, 1);
        x.fill(500);
        x.pass(1);
        due.is(x.station(5), 1);
        due.is(x.station(4), 0);
        due.is(x.pumpOf(0, 4), 500);
        due.is(x.pumpOf(0, 6), 3);
        due.is(x.pumpOf(0, 7), 0);
        due.is(x.pumpOf(1, 6), 11);
        int[][] events = {{1, 1}, {7, 0}, {0, 0}, {1, 0}};
        for (int i = 0; i < events.length; i++) {
            due.is(x.eventAt(i, 0), events[i][0]);
            due.is(x.eventAt(i, 1), 15);
            due.is(x.eventAt(i, 2), events[i][1]);
        }
    }

    /** Behind sleep there is no variable pump. */
    private static void notBehindSleep() {
        for (int minutes = 2; minutes <= 3; minutes++) {
            FieldPumps x = Stations.variable(500);
            x.set(2, 0);
            x.set(8, minutes);
            x.pump(1, 2000, 1);
            x.set(18, 1);
            x.pass(1);
            due.is(x.station(5), minutes == 2 ? 0 : 1);
            due.is(x.station(4), minutes == 2 ? Stations.NOT_FOUND : 1);
            due.is(x.eventAt(0, 0), minutes == 2 ? 2 : 1);
            due.is(x.pumpOf(1, 8), minutes == 2 ? 0 : 1);
        }
    }

    private static void notWhenDry() {
        FieldPumps x = steady(1);
        x.set(18, 2);
        x.set(11, 1);
        x.set(13, 1);
        due.is(x.foreseeEvent(7), Stations.NOT_FOUND);
        x.pass(1);
        due.is(x.station(6), 1);
        due.is(x.pumpOf(1, 8), 0);
        due.is(x.station(4), Stations.NOT_FOUND);
    }
}
