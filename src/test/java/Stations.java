/** Stations that several tests begin with, and the errors by short names. */
final class Stations {
    static final int INVALID = -1000001;
    static final int NOT_POSSIBLE = -1000002;
    static final int LIMIT = -1000003;
    static final int NOT_FOUND = -1000004;

    private Stations() {
    }

    /**
     * A fixed pump that runs and gives all that is in the tank (up to some 1400 litres), no refill,
     * never dry, at the time 1 with pressure 0: so fill(n), pass(1) supplies n.
     */
    static FieldPumps giving(int capacity) {
        FieldPumps x = new FieldPumps();
        x.pump(0, 2000, 1);
        x.set(10, capacity);
        x.set(11, 0);
        x.set(14, 0);
        x.fill(0);
        x.pass(1);
        return x;
    }

    /** As above, with a pressure (up to 1000) at the time 2. */
    static FieldPumps underPressure(int pressure) {
        FieldPumps x = giving(1);
        x.fill(pressure);
        x.pass(1);
        return x;
    }

    /** Types a text behind what was typed. */
    static void type(FieldPumps x, String text) {
        for (int i = 0; i < text.length(); i++) {
            x.type(text.charAt(i));
        }
    }

    /** Types it in place of what was typed. */
    static void retype(FieldPumps x, String text) {
        x.clearText();
        type(x, text);
    }

    /** Lets minutes go by, also more than 240. */
    static void passLong(FieldPumps x, int minutes) {
        for (int left = minutes; left > 0; left -= 240) {
            x.pass(Math.min(240, left));
        }
    }

    /** All that can be asked of a station without changing it. */
    static String all(FieldPumps x) {
        StringBuilder all = new StringBuilder();
        for (int what = 0; what <= 38; what++) {
            all.append(x.count(what)).append(' ');
        }
        all.append("station ");
        for (int what = 0; what <= 14; what++) {
            all.append(x.station(what)).append(' ');
        }
        for (int pump = 0; pump < x.count(0); pump++) {
            all.append("pump ");
            for (int what = 0; what <= 9; what++) {
                all.append(x.pumpOf(pump, what)).append(' ');
            }
        }
        for (int zone = 0; zone < x.count(1); zone++) {
            all.append("zone ");
            for (int what = 0; what <= 3; what++) {
                all.append(x.zoneOf(zone, what)).append(' ');
            }
        }
        all.append("rows ");
        for (int i = 0; i <= 12; i++) {
            all.append(x.readyAt(i)).append(' ').append(x.nightAt(i)).append(' ');
            all.append(x.eventAt(i, 0)).append(' ').append(x.eventAt(i, 1)).append(' ');
            all.append(x.eventAt(i, 2)).append(' ');
        }
        all.append(x.balance()).append(' ').append(x.fault(0)).append(' ').append(x.fault(1));
        return all.toString();
    }
}
