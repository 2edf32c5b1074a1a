/** Promises 3 to 8: pump, service, pumpOf, curve, readyAt and balance. */
public final class PumpsTest {
    private static final Due due = new Due("PumpsTest");

    public static void main(String[] args) {
        adding();
        wrongPumps();
        takingOutOfService();
        wrongService();
        handingOverTheVariableOne();
        handingOverToEqualOnes();
        whatAPumpTells();
        minutesSinceTheStart();
        curves();
        wrongCurves();
        orderOfReadyOnes();
        jockeysInTheOrder();
        balances();
        due.end();
    }

    private static void adding() {
        FieldPumps x = new FieldPumps();
        due.is(x.pump(0, 100, 1), 0);
        due.is(x.pump(1, 2000, 1000), 1);
        due.is(x.pump(2, 100, 1000), 2);
        due.is(x.pump(0, 2000, 1), 3);
        due.is(x.pump(0, 500, 5), 4);
        due.is(x.pump(0, 500, 5), 5);
        due.is(x.pump(0, 500, 5), Stations.LIMIT);
        due.is(x.pump(3, 500, 5), Stations.INVALID);
        due.is(x.count(0), 6);
        due.is(x.count(9), 4);
    }

    private static void wrongPumps() {
        FieldPumps x = new FieldPumps();
        due.is(x.pump(-1, 500, 5), Stations.INVALID);
        due.is(x.pump(3, 500, 5), Stations.INVALID);
        due.is(x.pump(0, 99, 5), Stations.INVALID);
        due.is(x.pump(0, 2001, 5), Stations.INVALID);
        due.is(x.pump(0, 500, 0), Stations.INVALID);
        due.is(x.pump(0, 500, 1001), Stations.INVALID);
        due.is(x.pump(0, Integer.MIN_VALUE, Integer.MAX_VALUE), Stations.INVALID);
        due.is(x.count(0), 0);
        due.is(x.count(9), 0);
    }

    private static void takingOutOfService() {
        FieldPumps x = new FieldPumps();
        x.pump(0, 400, 1000);
        x.pump(0, 400, 1000);
        due.is(x.service(1, 0), 0);
        due.is(x.pumpOf(1, 3), 0);
        due.is(x.count(4), 1);
        due.is(x.count(6), 0);
        x.pass(3);
        due.is(x.pumpOf(0, 7), 2);
        due.is(x.service(0, 0), 1);
        due.is(x.pumpOf(0, 4), 0);
        due.is(x.pumpOf(0, 7), 0);
        due.is(x.pumpOf(0, 6), 2);
        due.is(x.eventAt(0, 0), 1);
        due.is(x.eventAt(0, 1), 3);
        due.is(x.eventAt(0, 2), 0);
        due.is(x.eventAt(1, 0), 3);
        // None is ready, so none wakes.
        x.pass(2);
        due.is(x.station(5), 0);
        due.is(x.count(6), 3);
        due.is(x.service(1, 1), 0);
        x.pass(1);
        due.is(x.pumpOf(1, 4), 1000);
    }

    private static void wrongService() {
        FieldPumps x = new FieldPumps();
        due.is(x.service(0, 0), Stations.INVALID);
        x.pump(0, 400, 1000);
        due.is(x.service(-1, 0), Stations.INVALID);
        due.is(x.service(1, 0), Stations.INVALID);
        due.is(x.service(0, 2), Stations.INVALID);
        due.is(x.service(0, -1), Stations.INVALID);
        due.is(x.service(0, 1), Stations.NOT_POSSIBLE);
        due.is(x.count(9), 1);
        due.is(x.service(0, 0), 0);
        due.is(x.service(0, 0), Stations.NOT_POSSIBLE);
        due.is(x.count(9), 2);
    }

    /** Starts them one a minute, so that all run: 0, then 1, 2 and so on. */
    private static FieldPumps allRunning(int... kinds) {
        FieldPumps x = new FieldPumps();
        for (int kind : kinds) {
            x.pump(kind, 400, 1000);
        }
        // The variable one has speed 1000 behind the a of its next minute, so that the next starts.
        x.set(2, 100);
        x.set(3, 500);
        x.set(5, 1);
        x.pass(20);
        due.is(x.station(5), kinds.length);
        return x;
    }

    private static void handingOverTheVariableOne() {
        FieldPumps x = allRunning(1, 0, 1, 1);
        due.is(x.station(4), 3);
        due.is(x.pumpOf(3, 5), 1);
        due.is(x.pumpOf(2, 5), 0);
        // Of 0 and 2, which are not fixed, 2 has run fewer minutes; the fixed one is not asked.
        due.is(x.pumpOf(0, 6) > x.pumpOf(2, 6) ? 1 : 0, 1);
        due.is(x.service(3, 0), 1);
        due.is(x.station(4), 2);
        due.is(x.pumpOf(2, 4), 1000);
        // Of one that is not the variable one nothing is handed over.
        due.is(x.service(0, 0), 1);
        due.is(x.station(4), 2);
        due.is(x.service(2, 0), 1);
        due.is(x.station(4), Stations.NOT_FOUND);
        due.is(x.station(5), 1);
        due.is(x.pumpOf(1, 5), 0);
        // As many pumps as there may be: the fixed ones are passed over, also the last one.
        x = allRunning(1, 1, 0, 0, 0, 0);
        due.is(x.station(4), 1);
        due.is(x.service(1, 0), 1);
        due.is(x.station(4), 0);
        due.is(x.service(0, 0), 1);
        due.is(x.station(4), Stations.NOT_FOUND);
        // They have run longer in the order of their numbers; the pressure makes them stop so.
        x.set(0, 100);
        x.set(1, 1);
        x.set(6, 1);
        x.set(10, 1);
        x.pass(30);
        due.is(x.station(5), 0);
        due.is(x.eventAt(0, 2), 5);
        due.is(x.eventAt(1, 2), 4);
        due.is(x.eventAt(2, 2), 3);
        due.is(x.eventAt(3, 2), 2);
    }

    private static void handingOverToEqualOnes() {
        FieldPumps x = new FieldPumps();
        x.pump(1, 400, 1000);
        x.pump(1, 400, 1000);
        x.set(2, 100);
        x.set(3, 500);
        x.set(4, 900);
        x.set(5, 60);
        x.service(1, 0);
        x.pass(3);
        x.service(0, 0);
        x.service(1, 1);
        x.pass(2);
        x.service(0, 1);
        x.set(5, 1);
        // 1 runs its second minute, and 0, which has run two, is started behind it.
        x.pass(1);
        due.is(x.station(5), 2);
        due.is(x.pumpOf(0, 6), 2);
        due.is(x.pumpOf(1, 6), 2);
        x.pump(1, 400, 1000);
        x.pass(1);
        due.is(x.station(5), 3);
        due.is(x.station(4), 2);
        x.service(2, 0);
        due.is(x.station(4), 0);
        x.undo();
        due.is(x.station(4), 2);
        x.service(0, 0);
        x.service(2, 0);
        due.is(x.station(4), 1);
    }

    private static void whatAPumpTells() {
        FieldPumps x = new FieldPumps();
        x.pump(2, 600, 40);
        due.is(x.pumpOf(0, 0), 2);
        due.is(x.pumpOf(0, 1), 600);
        due.is(x.pumpOf(0, 2), 40);
        due.is(x.pumpOf(0, 3), 1);
        for (int what = 4; what <= 9; what++) {
            due.is(x.pumpOf(0, what), 0);
        }
        x.pass(1);
        due.is(x.pumpOf(0, 4), 500);
        due.is(x.pumpOf(0, 5), 1);
        due.is(x.pumpOf(0, 6), 0);
        due.is(x.pumpOf(0, 8), 1);
        // Its lift is 600 * 500 * 500 / 1000000 = 150; 61 * 61 is the last square up to 3750.
        due.is(x.pumpOf(0, 9), 61);
        x.pass(1);
        // The supply was 61, the pressure is 3; the speed 500 + 397 * 20 / 100.
        due.is(x.station(0), 3);
        due.is(x.pumpOf(0, 4), 579);
        due.is(x.pumpOf(0, 6), 1);
        due.is(x.pumpOf(0, 9), 70);
        due.is(x.pumpOf(-1, 0), Stations.INVALID);
        due.is(x.pumpOf(1, 0), Stations.INVALID);
        due.is(x.pumpOf(0, -1), Stations.INVALID);
        due.is(x.pumpOf(0, 10), Stations.INVALID);
        due.is(x.pumpOf(Integer.MAX_VALUE, Integer.MIN_VALUE), Stations.INVALID);
    }

    private static void minutesSinceTheStart() {
        FieldPumps x = new FieldPumps();
        x.pump(0, 400, 1000);
        x.pass(6);
        due.is(x.pumpOf(0, 6), 5);
        due.is(x.pumpOf(0, 7), 5);
        x.service(0, 0);
        x.service(0, 1);
        x.pass(3);
        due.is(x.pumpOf(0, 6), 7);
        due.is(x.pumpOf(0, 7), 2);
        due.is(x.pumpOf(0, 8), 2);
    }

    private static void curves() {
        FieldPumps x = new FieldPumps();
        x.pump(0, 100, 1000);
        due.is(x.curve(0, 1000, 0), 10);
        due.is(x.curve(0, 1000, 1), 9);
        due.is(x.curve(0, 1000, 99), 1);
        due.is(x.curve(0, 1000, 100), 0);
        due.is(x.curve(0, 1000, 2000), 0);
        due.is(x.curve(0, 300, 0), 3);
        x.pump(1, 111, 1);
        // The lift 9.99 is rounded to 9.
        due.is(x.curve(1, 300, 0), 94);
        x.pump(2, 2000, 1);
        due.is(x.curve(2, 1000, 0), 1414);
        due.is(x.curve(2, 1000, 4), 1412);
        due.is(x.curve(2, 1000, 1999), 31);
        due.is(x.curve(2, 1000, 2000), 0);
        // 144 * 712 * 712 is 64 less than 73 millions.
        x.pump(1, 144, 1);
        due.is(x.curve(3, 712, 0), 268);
        // 111 * 999 * 999 / 1000000 = 110.778; speeds that are rounded one by one tell less.
        due.is(x.curve(1, 999, 0), 331);
        due.is(x.count(9), 4);
    }

    private static void wrongCurves() {
        FieldPumps x = new FieldPumps();
        due.is(x.curve(0, 1000, 0), Stations.INVALID);
        x.pump(0, 400, 10);
        due.is(x.curve(-1, 1000, 0), Stations.INVALID);
        due.is(x.curve(1, 1000, 0), Stations.INVALID);
        due.is(x.curve(0, 299, 0), Stations.INVALID);
        due.is(x.curve(0, 1001, 0), Stations.INVALID);
        due.is(x.curve(0, 1000, -1), Stations.INVALID);
        due.is(x.curve(0, 1000, 2001), Stations.INVALID);
        due.is(x.curve(0, 300, 2000), 0);
    }

    private static void orderOfReadyOnes() {
        FieldPumps x = new FieldPumps();
        due.is(x.readyAt(0), Stations.NOT_FOUND);
        due.is(x.readyAt(-1), Stations.INVALID);
        due.is(x.readyAt(Integer.MIN_VALUE), Stations.INVALID);
        x.pump(0, 400, 1000);
        x.pump(1, 400, 1000);
        x.pump(0, 400, 1000);
        due.is(x.readyAt(0), 0);
        due.is(x.readyAt(1), 1);
        due.is(x.readyAt(2), 2);
        due.is(x.readyAt(3), Stations.NOT_FOUND);
        due.is(x.readyAt(Integer.MAX_VALUE), Stations.NOT_FOUND);
        x.set(5, 60);
        x.pass(4);
        due.is(x.readyAt(0), 1);
        due.is(x.readyAt(1), 2);
        due.is(x.readyAt(2), Stations.NOT_FOUND);
        // It has run 3 minutes, so it is behind the others now.
        x.service(0, 0);
        x.service(0, 1);
        due.is(x.readyAt(0), 1);
        due.is(x.readyAt(2), 0);
        x.service(1, 0);
        due.is(x.readyAt(0), 2);
        due.is(x.readyAt(1), 0);
        due.is(x.readyAt(2), Stations.NOT_FOUND);
    }

    private static void jockeysInTheOrder() {
        FieldPumps x = new FieldPumps();
        x.pump(0, 400, 1000);
        x.pump(2, 400, 1000);
        x.pump(1, 400, 1000);
        x.pump(2, 400, 1000);
        due.is(x.readyAt(0), 1);
        due.is(x.readyAt(1), 3);
        due.is(x.readyAt(2), 0);
        due.is(x.readyAt(3), 2);
        x.pass(1);
        due.is(x.eventAt(1, 2), 1);
        due.is(x.readyAt(0), 0);
        due.is(x.readyAt(1), 2);
        due.is(x.readyAt(2), 3);
        due.is(x.readyAt(3), Stations.NOT_FOUND);
    }

    private static void balances() {
        FieldPumps x = new FieldPumps();
        due.is(x.balance(), Stations.NOT_FOUND);
        x.pump(0, 400, 1000);
        due.is(x.balance(), 0);
        x.pass(6);
        due.is(x.balance(), 0);
        x.pump(0, 400, 1000);
        due.is(x.balance(), 5);
        x.service(0, 0);
        x.pass(3);
        due.is(x.pumpOf(1, 6), 2);
        due.is(x.balance(), 3);
        x = new FieldPumps();
        x.pump(0, 400, 1000);
        x.pump(2, 400, 1000);
        x.pump(0, 400, 1000);
        x.pass(3);
        // The jockey has run 2, the others have not.
        due.is(x.balance(), 2);
    }
}
