/** Stations that several tests begin with, and the errors by short names. */
final class Stations {
    static final int INVALID = -1000001;
    static final int NOT_POSSIBLE = -1000002;
    static final int LIMIT = -1000003;
    static final int NOT_FOUND = -1000004;

    /** Of each setting the least, the most and the first value. */
    static final int[][] SETTINGS = {
        {100, 900, 400}, {1, 100, 20}, {0, 100, 20}, {1, 500, 100}, {300, 900, 500}, {1, 60, 3},
        {1, 60, 5}, {0, 1000, 60}, {1, 60, 4}, {1, 300, 60}, {1, 200, 20}, {0, 10000, 500},
        {0, 10000, 2000}, {1, 60, 2}, {0, 1000, 300}, {0, 1439, 60}, {1, 600, 180},
        {0, 100000, 3000}, {0, 1440, 0}};

    private Stations() {
    }

    /**
     * A fixed pump that runs and gives all that is in the tank (up to some 1400 litres), no refill,
     * never dry, at the time 1 with pressure 0: so fill(n), pass(1) supplies n.
     */
    static FieldPumps giving(int capacity) {
        FieldPumps x = new FieldPumps();
        x.pump(0, 2000, 1);
        x.set(10, capacity);
        keepInTank(x, 0);
        x.pass(1);
        return x;
    }

    /** As above, with a pressure (up to 1400) at the time 2. */
    static FieldPumps underPressure(int pressure) {
        FieldPumps x = giving(1);
        x.fill(pressure);
        x.pass(1);
        return x;
    }

    /**
     * A variable pump alone, at this speed, which is the least one, with pressure 0 at the time 1; it
     * gives all that is in the tank (up to some 700 litres at the speed 500), and is never dry: so
     * fill(n), pass(1) makes the pressure n.
     */
    static FieldPumps variable(int speed) {
        FieldPumps x = new FieldPumps();
        x.pump(1, 2000, 1);
        x.set(4, speed);
        x.set(10, 1);
        keepInTank(x, 0);
        x.pass(1);
        return x;
    }

    /** This level without refill, and never dry. */
    static void keepInTank(FieldPumps x, int level) {
        x.set(11, 0);
        x.set(14, 0);
        x.fill(level);
    }

    /** A fixed pump that rests at a pressure (up to 1400), at the time 2. */
    static FieldPumps resting(int pressure) {
        FieldPumps x = underPressure(pressure);
        x.service(0, 0);
        x.service(0, 1);
        return x;
    }

    /** Makes the next minute of a giving() one the whole night, with this flow. */
    static void night(FieldPumps x, int flow) {
        x.set(15, x.count(8) + 1);
        x.set(16, 1);
        x.fill(flow);
        x.pass(1);
    }

    /** A zone that is closed and one that is open, a pump in service and one out of it. */
    static FieldPumps small() {
        FieldPumps x = new FieldPumps();
        x.zone(100);
        x.zone(100);
        x.open(1, 1);
        x.pump(0, 400, 1000);
        x.pump(0, 400, 1000);
        x.service(1, 0);
        return x;
    }

    /** Lets the variable one change its speed by all that the pressure is off the setpoint. */
    static void quick(FieldPumps x) {
        x.set(2, 100);
        x.set(3, 500);
    }

    /** A station in which everything is there to be restored, with three states in its history. */
    static FieldPumps busy() {
        FieldPumps x = new FieldPumps();
        x.pump(1, 700, 20);
        x.pump(0, 650, 30);
        x.pump(2, 600, 400);
        x.zone(200);
        x.zone(50);
        x.open(1, 1);
        x.programme(0, 20, 60);
        x.leak(100);
        x.set(16, 1);
        passLong(x, 100);
        x.fill(9000);
        x.undo();
        return x;
    }

    /** As many as there may be of all: pumps, zones, nights, minutes, states, characters and so on. */
    static FieldPumps full() {
        FieldPumps x = new FieldPumps();
        for (int i = 0; i < 6; i++) {
            x.pump(i % 3, 400 + 50 * i, 10 + i);
        }
        for (int i = 0; i < 8; i++) {
            x.zone(50 + i);
            x.programme(i, 100 + i, 200 + i);
        }
        x.set(16, 1);
        x.set(18, 60);
        passLong(x, 19990);
        type(x, "p1;".repeat(20));
        x.open(0, 1);
        x.service(1, 0);
        x.leak(10);
        x.pass(10);
        return x;
    }

    /** Dry, with three trips and four states in its history. */
    static FieldPumps dry() {
        FieldPumps x = new FieldPumps();
        x.pump(1, 700, 20);
        x.pump(0, 650, 30);
        x.zone(100);
        x.set(14, 0);
        x.set(12, 0);
        x.fill(1);
        x.pass(5);
        type(x, "o0;");
        return x;
    }

    /** Types a text behind what was typed. */
    static void type(FieldPumps x, String text) {
        for (int i = 0; i < text.length(); i++) {
            x.type(text.charAt(i));
        }
    }

    /** Types it in place of what was typed. */
    static void retype(FieldPumps x, String text) {
        x.clearText();
        type(x, text);
    }

    /** Lets minutes go by, also more than 240. */
    static void passLong(FieldPumps x, int minutes) {
        for (int left = minutes; left > 0; left -= 240) {
            x.pass(Math.min(240, left));
        }
    }

    /** All that can be asked of a station without changing it. */
    static String all(FieldPumps x) {
        return "states " + x.count(9) + ' ' + present(x);
    }

    /** As above, but for the states of its history. */
    static String present(FieldPumps x) {
        StringBuilder all = new StringBuilder();
        for (int what = 0; what <= 38; what++) {
            all.append(what == 9 ? 0 : x.count(what)).append(' ');
        }
        all.append("station ");
        for (int what = 0; what <= 14; what++) {
            all.append(x.station(what)).append(' ');
        }
        for (int pump = 0; pump < x.count(0); pump++) {
            all.append("pump ");
            for (int what = 0; what <= 9; what++) {
                all.append(x.pumpOf(pump, what)).append(' ');
            }
            all.append(x.curve(pump, 1000, 0)).append(' ').append(x.curve(pump, 700, 90)).append(' ');
        }
        for (int zone = 0; zone < x.count(1); zone++) {
            all.append("zone ");
            for (int what = 0; what <= 3; what++) {
                all.append(x.zoneOf(zone, what)).append(' ');
            }
        }
        all.append("rows ");
        for (int i = 0; i <= 12; i++) {
            all.append(x.readyAt(i)).append(' ').append(x.nightAt(i)).append(' ');
            all.append(x.eventAt(i, 0)).append(' ').append(x.eventAt(i, 1)).append(' ');
            all.append(x.eventAt(i, 2)).append(' ');
        }
        all.append(x.balance()).append(' ').append(x.fault(0)).append(' ').append(x.fault(1));
        return all.toString();
    }
}
