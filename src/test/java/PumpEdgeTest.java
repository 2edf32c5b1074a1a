/** Edges of the section "Pumps": lift and flow, the order of the ready ones, and the variable one. */
public final class PumpEdgeTest {
    private static final Due due = new Due("PumpEdgeTest");

    public static void main(String[] args) {
        lifts();
        squares();
        greatestAndLeastFlows();
        flowsOfSteepOnes();
        flowNow();
        readyOnesByMinutes();
        readyOnesByNumbers();
        readyOrNot();
        jockeysAheadOrBehind();
        readyOnesAsTheyAreNow();
        balances();
        startedAtTheLeastSpeed();
        variableOneIsNoMore();
        handedOverByMinutes();
        handedOverToNone();
        stoppedOnesThatAreNotTheVariableOne();
        due.end();
    }

    /** "Its lift at a speed is shutoff * speed * speed / 1000000.", told by the pressure it stands at. */
    private static void lifts() {
        int[] shutoffs = {100, 101, 111, 999, 1000, 1001, 1999, 2000};
        int[] speeds = {300, 301, 316, 317, 500, 707, 708, 999, 1000};
        for (int i = 0; i < shutoffs.length; i++) {
            FieldPumps x = new FieldPumps();
            x.pump(i % 3, shutoffs[i], 1000);
            for (int speed : speeds) {
                int lift = (int) ((long) shutoffs[i] * speed * speed / 1000000L);
                // "Its flow at a pressure is 0 if its lift is not greater than the pressure"
                due.is(x.curve(0, speed, lift - 1), 1);
                due.is(x.curve(0, speed, lift), 0);
                due.is(x.curve(0, speed, Math.min(2000, lift + 1)), 0);
            }
        }
    }

    /** "the greatest number whose square is not greater than (lift - pressure) * 1000 / steepness" */
    private static void squares() {
        FieldPumps x = new FieldPumps();
        x.pump(0, 2000, 1000);
        for (int root = 1; root <= 44; root++) {
            due.is(x.curve(0, 1000, 2000 - root * root + 1), root - 1);
            due.is(x.curve(0, 1000, 2000 - root * root), root);
            due.is(x.curve(0, 1000, 2000 - Math.min(2000, root * root + 1)), root);
        }
    }

    private static void greatestAndLeastFlows() {
        FieldPumps x = new FieldPumps();
        x.pump(0, 2000, 1);
        x.pump(1, 100, 1000);
        x.pump(2, 100, 1);
        // 1414 * 1414 is 604 less than two millions, and 1413 * 1413 is 2223 less.
        due.is(x.curve(0, 1000, 0), 1414);
        due.is(x.curve(0, 1000, 1), 1413);
        due.is(x.curve(0, 1000, 1999), 31);
        due.is(x.curve(0, 1000, 2000), 0);
        due.is(x.curve(0, 300, 0), 424);
        due.is(x.curve(0, 300, 179), 31);
        due.is(x.curve(0, 300, 180), 0);
        due.is(x.curve(1, 1000, 0), 10);
        due.is(x.curve(1, 300, 0), 3);
        due.is(x.curve(1, 300, 8), 1);
        due.is(x.curve(1, 300, 9), 0);
        due.is(x.curve(1, 1000, 2000), 0);
        due.is(x.curve(2, 300, 0), 94);
    }

    /** The difference by a thousand is divided, not each. */
    private static void flowsOfSteepOnes() {
        int[][] flows = {{999, 1, 1}, {999, 4, 2}, {999, 999, 31}, {500, 1, 1}, {500, 2, 2}, {500, 5, 3},
            {3, 1, 18}, {7, 10, 37}, {250, 1, 2}, {249, 1, 2}, {251, 1, 1}, {111, 1, 3}, {112, 1, 2}};
        for (int[] flow : flows) {
            FieldPumps x = new FieldPumps();
            x.pump(0, 1000, flow[0]);
            due.is(x.curve(0, 1000, 1000 - flow[1]), flow[2]);
        }
    }

    /** "9: its flow now, 0 if it rests", at its speed and the pressure as it is */
    private static void flowNow() {
        FieldPumps x = Stations.variable(500);
        for (int pressure = 498; pressure <= 501; pressure++) {
            x.set(2, 0);
            x.fill(pressure - x.station(0));
            x.pass(1);
            due.is(x.station(0), pressure);
            due.is(x.pumpOf(0, 4), 500);
            // The lift is 500.
            due.is(x.pumpOf(0, 9), pressure == 498 ? 44 : pressure == 499 ? 31 : 0);
            due.is(x.pumpOf(0, 9), x.curve(0, 500, pressure));
            if (pressure == 500) {
                break;
            }
        }
        x.service(0, 0);
        due.is(x.pumpOf(0, 9), 0);
        due.is(x.pumpOf(0, 4), 0);
    }

    /** Fixed pumps that have run so many minutes each, and rest, all ready. */
    private static FieldPumps havingRun(int... minutes) {
        FieldPumps x = new FieldPumps();
        x.set(5, 60);
        for (int pump = 0; pump < minutes.length; pump++) {
            x.pump(0, 400, 1000);
            x.service(pump, 0);
        }
        for (int pump = 0; pump < minutes.length; pump++) {
            x.service(pump, 1);
            x.pass(minutes[pump] + 1);
            x.service(pump, 0);
            due.is(x.pumpOf(pump, 6), minutes[pump]);
        }
        for (int pump = 0; pump < minutes.length; pump++) {
            x.service(pump, 1);
        }
        return x;
    }

    /** "then by the minutes run, the fewest first; then by numbers" */
    private static void readyOnesByMinutes() {
        int[][] orders = {{5, 4, 1, 0}, {5, 5, 0, 1}, {5, 6, 0, 1}, {0, 0, 0, 1}, {1, 0, 1, 0}};
        for (int[] order : orders) {
            FieldPumps x = havingRun(order[0], order[1]);
            due.is(x.readyAt(0), order[2]);
            due.is(x.readyAt(1), order[3]);
            due.is(x.readyAt(2), Stations.NOT_FOUND);
            x.pass(1);
            due.is(x.eventAt(1, 0), 0);
            due.is(x.eventAt(1, 2), order[2]);
        }
    }

    private static void readyOnesByNumbers() {
        FieldPumps x = havingRun(2, 1, 2, 0, 1, 2);
        int[] order = {3, 1, 4, 0, 2, 5};
        for (int index = 0; index < 6; index++) {
            due.is(x.readyAt(index), order[index]);
        }
        due.is(x.readyAt(6), Stations.NOT_FOUND);
        due.is(x.readyAt(-1), Stations.INVALID);
        due.is(x.count(4), 6);
        x.service(3, 0);
        due.is(x.count(4), 5);
        due.is(x.readyAt(0), 1);
        due.is(x.readyAt(4), 5);
        due.is(x.readyAt(5), Stations.NOT_FOUND);
    }

    /** "A pump is ready if it is in service and rests.": neither alone is enough. */
    private static void readyOrNot() {
        FieldPumps x = new FieldPumps();
        due.is(x.count(4), 0);
        due.is(x.readyAt(0), Stations.NOT_FOUND);
        x.pump(0, 400, 1000);
        due.is(x.count(4), 1);
        due.is(x.readyAt(0), 0);
        x.service(0, 0);
        due.is(x.count(4), 0);
        due.is(x.readyAt(0), Stations.NOT_FOUND);
        x.service(0, 1);
        due.is(x.count(4), 1);
        x.pass(1);
        due.is(x.station(5), 1);
        due.is(x.count(4), 0);
        due.is(x.readyAt(0), Stations.NOT_FOUND);
        x.service(0, 0);
        due.is(x.count(4), 0);
        x.service(0, 1);
        due.is(x.count(4), 1);
        due.is(x.readyAt(0), 0);
        due.is(x.readyAt(1), Stations.NOT_FOUND);
    }

    /** "if no pump runs, jockeys are ahead of all others, otherwise behind all others" */
    private static void jockeysAheadOrBehind() {
        FieldPumps x = new FieldPumps();
        x.pump(1, 400, 1000);
        x.pump(2, 400, 1000);
        x.set(5, 60);
        x.set(8, 60);
        // The jockey has run more minutes, and is ahead all the same.
        x.pass(9);
        due.is(x.pumpOf(1, 6), 8);
        due.is(x.readyAt(0), 0);
        due.is(x.readyAt(1), Stations.NOT_FOUND);
        x.service(1, 0);
        x.service(1, 1);
        due.is(x.station(5), 0);
        due.is(x.readyAt(0), 1);
        due.is(x.readyAt(1), 0);
        // One that runs, however short, puts it behind.
        x.service(1, 0);
        x.pass(9);
        due.is(x.pumpOf(0, 6), 8);
        x.pump(0, 400, 1000);
        x.service(1, 1);
        due.is(x.readyAt(0), 2);
        due.is(x.readyAt(1), 1);
        x.pump(2, 400, 1000);
        // Of two jockeys the one with fewer minutes.
        due.is(x.readyAt(0), 2);
        due.is(x.readyAt(1), 3);
        due.is(x.readyAt(2), 1);
        x.service(0, 0);
        due.is(x.readyAt(0), 3);
        due.is(x.readyAt(1), 1);
        due.is(x.readyAt(2), 2);
        x.service(0, 1);
        due.is(x.readyAt(2), 2);
        due.is(x.readyAt(3), 0);
        due.is(x.readyAt(4), Stations.NOT_FOUND);
    }

    /** "(the order does not change by those ahead)": if none runs, all jockeys are ahead. */
    private static void readyOnesAsTheyAreNow() {
        FieldPumps x = new FieldPumps();
        x.pump(0, 400, 1000);
        x.pump(2, 400, 1000);
        x.pump(2, 400, 1000);
        due.is(x.readyAt(0), 1);
        due.is(x.readyAt(1), 2);
        due.is(x.readyAt(2), 0);
        x.set(5, 1);
        x.set(4, 900);
        x.set(3, 500);
        x.pass(3);
        // Started in another order: the first one runs when the second one is asked for.
        due.is(x.station(5), 2);
        due.is(x.pumpOf(1, 4), 1000);
        due.is(x.pumpOf(0, 4), 1000);
        due.is(x.pumpOf(2, 4), 0);
    }

    /** "Returns the most minutes run minus the fewest; NOT_FOUND without pumps." */
    private static void balances() {
        due.is(new FieldPumps().balance(), Stations.NOT_FOUND);
        due.is(havingRun(0).balance(), 0);
        due.is(havingRun(9).balance(), 0);
        due.is(havingRun(9, 9).balance(), 0);
        due.is(havingRun(9, 8).balance(), 1);
        due.is(havingRun(8, 9).balance(), 1);
        due.is(havingRun(5, 9, 1, 7).balance(), 8);
        due.is(havingRun(0, 0, 0, 0, 0, 3).balance(), 3);
        // Those out of service, too, and those that have not run.
        FieldPumps x = havingRun(4, 9);
        x.service(1, 0);
        due.is(x.balance(), 5);
        x.pump(1, 400, 1000);
        due.is(x.balance(), 9);
    }

    /** "the started one is the variable one, at the least speed; otherwise it runs at 1000" */
    private static void startedAtTheLeastSpeed() {
        for (int kind = 0; kind <= 2; kind++) {
            for (int least : new int[] {300, 301, 899, 900}) {
                FieldPumps x = new FieldPumps();
                x.pump(kind, 400, 1000);
                x.set(4, least);
                x.pass(1);
                due.is(x.pumpOf(0, 4), kind == 0 ? 1000 : least);
                due.is(x.pumpOf(0, 5), kind == 0 ? 0 : 1);
                due.is(x.station(4), kind == 0 ? Stations.NOT_FOUND : 0);
            }
        }
    }

    /** "the variable one, if there is one, gets the speed 1000 and is it no more" */
    private static void variableOneIsNoMore() {
        for (int second = 0; second <= 2; second++) {
            FieldPumps x = new FieldPumps();
            x.pump(2, 400, 1000);
            x.pump(second, 400, 1000);
            x.set(4, 900);
            x.set(2, 0);
            x.set(5, 1);
            x.set(8, 60);
            x.pass(1);
            due.is(x.pumpOf(0, 4), 900);
            // The speed 1000 lets the minutes to start go on.
            x.set(2, 100);
            x.pass(1);
            due.is(x.station(5), 2);
            due.is(x.station(4), second == 0 ? 0 : 1);
            due.is(x.pumpOf(0, 4), 1000);
            due.is(x.pumpOf(0, 5), second == 0 ? 1 : 0);
            due.is(x.pumpOf(1, 4), second == 0 ? 1000 : 900);
            due.is(x.pumpOf(1, 5), second == 0 ? 0 : 1);
            // It stays at 1000; only the variable one changes its speed.
            x.set(0, 100);
            x.set(1, 100);
            x.set(2, 0);
            x.pass(1);
            due.is(x.pumpOf(0, 4), 1000);
            due.is(x.pumpOf(1, 4), second == 0 ? 1000 : 900);
        }
    }

    /** Variable ones that have run so many minutes; started in the order of the numbers in three minutes. */
    private static FieldPumps threeRunning(int... minutes) {
        FieldPumps x = new FieldPumps();
        x.set(8, 60);
        for (int pump = 0; pump < 3; pump++) {
            x.pump(1, 100, 1000);
            x.service(pump, 0);
        }
        for (int pump = 0; pump < 3; pump++) {
            x.service(pump, 1);
            x.pass(minutes[pump] + 1);
            x.service(pump, 0);
        }
        x.set(4, 900);
        x.set(3, 500);
        x.set(5, 1);
        for (int pump = 0; pump < 3; pump++) {
            x.service(pump, 1);
            x.pass(pump == 0 ? 1 : 2);
        }
        due.is(x.station(5), 3);
        due.is(x.station(4), 2);
        return x;
    }

    /** "of those that still run and are not fixed the one with the fewest minutes run (of equal ones ..)" */
    private static void handedOverByMinutes() {
        // Pump 0 runs two minutes more than 1 before the third one is started.
        int[][] heirs = {{0, 3, 0}, {0, 2, 0}, {0, 1, 1}, {5, 0, 1}, {9, 9, 1}, {1, 9, 0}};
        for (int[] heir : heirs) {
            FieldPumps x = threeRunning(heir[0], heir[1], 0);
            due.is(x.pumpOf(0, 6), heir[0] + 4);
            due.is(x.pumpOf(1, 6), heir[1] + 2);
            due.is(x.service(2, 0), 1);
            due.is(x.station(4), heir[2]);
            due.is(x.pumpOf(heir[2], 5), 1);
            due.is(x.pumpOf(1 - heir[2], 5), 0);
            // "with the speed it has"
            due.is(x.pumpOf(heir[2], 4), 1000);
            due.is(x.service(heir[2], 0), 1);
            due.is(x.station(4), 1 - heir[2]);
        }
    }

    private static void handedOverToNone() {
        FieldPumps x = new FieldPumps();
        x.pump(1, 400, 1000);
        x.pump(0, 400, 1000);
        x.set(2, 100);
        x.set(4, 900);
        x.set(5, 1);
        x.set(8, 60);
        x.pass(2);
        due.is(x.station(5), 2);
        due.is(x.station(4), 0);
        due.is(x.service(0, 0), 1);
        // A fixed one is none.
        due.is(x.station(4), Stations.NOT_FOUND);
        due.is(x.station(5), 1);
        due.is(x.service(1, 0), 1);
        due.is(x.station(4), Stations.NOT_FOUND);
        due.is(x.station(5), 0);
        // A jockey is one.
        x = new FieldPumps();
        x.pump(2, 400, 1000);
        x.pump(1, 400, 1000);
        x.set(2, 100);
        x.set(4, 900);
        x.set(5, 1);
        x.set(8, 60);
        x.pass(2);
        due.is(x.station(4), 1);
        due.is(x.service(1, 0), 1);
        due.is(x.station(4), 0);
        due.is(x.pumpOf(0, 4), 1000);
    }

    private static void stoppedOnesThatAreNotTheVariableOne() {
        FieldPumps x = threeRunning(0, 0, 0);
        due.is(x.service(0, 0), 1);
        due.is(x.station(4), 2);
        due.is(x.service(1, 0), 1);
        due.is(x.station(4), 2);
        due.is(x.station(5), 1);
        // One that rests is taken out of service without a stop.
        x.service(0, 1);
        int events = x.count(6);
        due.is(x.service(0, 0), 0);
        due.is(x.count(6), events);
        due.is(x.service(0, 0), Stations.NOT_POSSIBLE);
        due.is(x.service(2, 1), Stations.NOT_POSSIBLE);
    }
}
