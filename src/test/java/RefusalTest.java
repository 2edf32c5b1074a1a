import java.util.List;
import java.util.function.ToIntFunction;

/**
 * The section "Changes and errors": of each call that is refused which error is answered, also where
 * several are due at once, and that it changes nothing.
 */
public final class RefusalTest {
    private static final Due due = new Due("RefusalTest");
    private static final int LEAST = Integer.MIN_VALUE;
    private static final int MOST = Integer.MAX_VALUE;

    private static final Made FRESH = new Made(FieldPumps::new);
    private static final Made BUSY = new Made(() -> typed(Stations.busy(), "p5;o9;"));
    private static final Made FULL = new Made(Stations::full);
    private static final Made DRY = new Made(Stations::dry);

    /** Out of their ranges in every state, or of pumps and zones that none has. */
    private static final List<ToIntFunction<FieldPumps>> INVALID = List.of(
        x -> x.set(-1, 400), x -> x.set(19, 400), x -> x.set(LEAST, 400), x -> x.set(MOST, 400),
        x -> x.set(0, 99), x -> x.set(0, 901), x -> x.set(0, LEAST), x -> x.set(0, MOST),
        x -> x.pump(-1, 500, 5), x -> x.pump(3, 500, 5), x -> x.pump(LEAST, 500, 5),
        x -> x.pump(0, 99, 5), x -> x.pump(0, 2001, 5), x -> x.pump(0, MOST, 5),
        x -> x.pump(0, 500, 0), x -> x.pump(0, 500, 1001), x -> x.pump(0, 500, LEAST),
        x -> x.service(-1, 0), x -> x.service(6, 0), x -> x.service(6, 1), x -> x.service(MOST, 1),
        x -> x.service(0, -1), x -> x.service(0, 2), x -> x.service(LEAST, LEAST),
        x -> x.pumpOf(-1, 0), x -> x.pumpOf(6, 0), x -> x.pumpOf(0, -1), x -> x.pumpOf(0, 10),
        x -> x.pumpOf(LEAST, 0), x -> x.pumpOf(0, MOST),
        x -> x.curve(-1, 1000, 0), x -> x.curve(6, 1000, 0), x -> x.curve(MOST, 1000, 0),
        x -> x.curve(0, 299, 0), x -> x.curve(0, 1001, 0), x -> x.curve(0, LEAST, 0),
        x -> x.curve(0, 1000, -1), x -> x.curve(0, 1000, 2001), x -> x.curve(0, 1000, MOST),
        x -> x.readyAt(-1), x -> x.readyAt(LEAST),
        x -> x.zone(0), x -> x.zone(1001), x -> x.zone(LEAST), x -> x.zone(MOST),
        x -> x.open(-1, 1), x -> x.open(8, 0), x -> x.open(8, 1), x -> x.open(MOST, 1),
        x -> x.open(0, -1), x -> x.open(0, 2), x -> x.open(0, LEAST),
        x -> x.leak(-1), x -> x.leak(1001), x -> x.leak(LEAST), x -> x.leak(MOST),
        x -> x.programme(-1, 1, 2), x -> x.programme(8, 1, 2), x -> x.programme(LEAST, 1, 2),
        x -> x.programme(0, -1, 2), x -> x.programme(0, 1440, 2), x -> x.programme(0, MOST, 2),
        x -> x.programme(0, 1, -1), x -> x.programme(0, 1, 1440), x -> x.programme(0, 1, LEAST),
        x -> x.programme(0, 0, 0), x -> x.programme(0, 7, 7), x -> x.programme(0, 1439, 1439),
        x -> x.programme(0, 1440, 1440), x -> x.programme(0, -1, -1),
        x -> x.zoneOf(-1, 0), x -> x.zoneOf(8, 0), x -> x.zoneOf(0, -1), x -> x.zoneOf(0, 4),
        x -> x.zoneOf(LEAST, 0), x -> x.zoneOf(0, MOST),
        x -> x.fill(-1), x -> x.fill(20001), x -> x.fill(LEAST), x -> x.fill(MOST),
        x -> x.pass(0), x -> x.pass(-1), x -> x.pass(241), x -> x.pass(LEAST), x -> x.pass(MOST),
        x -> x.foresee(0, 0), x -> x.foresee(1441, 0), x -> x.foresee(LEAST, 0),
        x -> x.foresee(MOST, 0), x -> x.foresee(1, -1), x -> x.foresee(1, 5), x -> x.foresee(1, MOST),
        x -> x.foresee(0, 3), x -> x.foresee(1441, 3), x -> x.foresee(0, 5),
        x -> x.foreseeEvent(-1), x -> x.foreseeEvent(8), x -> x.foreseeEvent(LEAST),
        x -> x.foreseeEvent(MOST),
        x -> x.station(-1), x -> x.station(15), x -> x.station(LEAST), x -> x.station(MOST),
        x -> x.nightAt(-1), x -> x.nightAt(LEAST),
        x -> x.eventAt(-1, 0), x -> x.eventAt(LEAST, 2), x -> x.eventAt(0, -1), x -> x.eventAt(0, 3),
        x -> x.eventAt(12, 3), x -> x.eventAt(MOST, -1), x -> x.eventAt(0, LEAST),
        x -> x.count(-1), x -> x.count(11), x -> x.count(19), x -> x.count(39), x -> x.count(LEAST),
        x -> x.count(MOST),
        x -> x.type(31), x -> x.type(127), x -> x.type(0), x -> x.type(-1), x -> x.type(LEAST),
        x -> x.type(256 + 'o'), x -> x.type(65536 + 'o'), x -> x.type(MOST),
        x -> x.fault(-1), x -> x.fault(2), x -> x.fault(LEAST), x -> x.fault(MOST));

    public static void main(String[] args) {
        outOfRange();
        ofAFreshOne();
        ofABusyOne();
        ofAFullOne();
        ofADryOne();
        ofAnEmptyHistory();
        due.end();
    }

    private static FieldPumps typed(FieldPumps x, String text) {
        Stations.type(x, text);
        return x;
    }

    /**
     * "If several errors apply to a call, INVALID_ARGUMENT is returned rather than NOT_POSSIBLE, ..": so
     * in a state where other errors are due as well. "A call that returns an error changes nothing."
     */
    private static void outOfRange() {
        for (ToIntFunction<FieldPumps> call : INVALID) {
            FRESH.refuses(due, call, Stations.INVALID);
            BUSY.refuses(due, call, Stations.INVALID);
            FULL.refuses(due, call, Stations.INVALID);
            DRY.refuses(due, call, Stations.INVALID);
        }
    }

    /** "If there is no pump or zone with a certain number, this is INVALID_ARGUMENT." */
    private static void ofAFreshOne() {
        FRESH.refuses(due, x -> x.service(0, 0), Stations.INVALID);
        FRESH.refuses(due, x -> x.service(0, 1), Stations.INVALID);
        FRESH.refuses(due, x -> x.pumpOf(0, 0), Stations.INVALID);
        FRESH.refuses(due, x -> x.curve(0, 1000, 0), Stations.INVALID);
        FRESH.refuses(due, x -> x.open(0, 0), Stations.INVALID);
        FRESH.refuses(due, x -> x.open(0, 1), Stations.INVALID);
        FRESH.refuses(due, x -> x.programme(0, 1, 2), Stations.INVALID);
        FRESH.refuses(due, x -> x.zoneOf(0, 0), Stations.INVALID);
        FRESH.refuses(due, FieldPumps::reset, Stations.NOT_POSSIBLE);
        FRESH.refuses(due, FieldPumps::undo, Stations.NOT_POSSIBLE);
        FRESH.refuses(due, FieldPumps::balance, Stations.NOT_FOUND);
        FRESH.refuses(due, x -> x.readyAt(0), Stations.NOT_FOUND);
        FRESH.refuses(due, x -> x.readyAt(MOST), Stations.NOT_FOUND);
        FRESH.refuses(due, x -> x.foresee(1, 3), Stations.NOT_FOUND);
        FRESH.refuses(due, x -> x.foresee(1440, 3), Stations.NOT_FOUND);
        FRESH.refuses(due, x -> x.station(4), Stations.NOT_FOUND);
        FRESH.refuses(due, x -> x.nightAt(0), Stations.NOT_FOUND);
        FRESH.refuses(due, x -> x.nightAt(MOST), Stations.NOT_FOUND);
        FRESH.refuses(due, x -> x.fault(0), Stations.NOT_FOUND);
        FRESH.refuses(due, x -> x.fault(1), Stations.NOT_FOUND);
        for (int what = 0; what <= 2; what++) {
            int asked = what;
            FRESH.refuses(due, x -> x.eventAt(0, asked), Stations.NOT_FOUND);
            FRESH.refuses(due, x -> x.eventAt(MOST, asked), Stations.NOT_FOUND);
        }
        for (int kind = 0; kind <= 7; kind++) {
            int asked = kind;
            FRESH.refuses(due, x -> x.foreseeEvent(asked), Stations.NOT_FOUND);
        }
    }

    /** Three pumps, two zones, the second one open, one night, no trip, and a text with a fault. */
    private static void ofABusyOne() {
        BUSY.refuses(due, x -> x.service(3, 0), Stations.INVALID);
        BUSY.refuses(due, x -> x.service(3, 1), Stations.INVALID);
        BUSY.refuses(due, x -> x.pumpOf(3, 0), Stations.INVALID);
        BUSY.refuses(due, x -> x.curve(3, 1000, 0), Stations.INVALID);
        BUSY.refuses(due, x -> x.open(2, 0), Stations.INVALID);
        BUSY.refuses(due, x -> x.programme(2, 1, 2), Stations.INVALID);
        BUSY.refuses(due, x -> x.zoneOf(2, 0), Stations.INVALID);
        BUSY.refuses(due, x -> x.service(0, 1), Stations.NOT_POSSIBLE);
        BUSY.refuses(due, x -> x.service(2, 1), Stations.NOT_POSSIBLE);
        BUSY.refuses(due, x -> x.open(0, 0), Stations.NOT_POSSIBLE);
        BUSY.refuses(due, x -> x.open(1, 1), Stations.NOT_POSSIBLE);
        BUSY.refuses(due, FieldPumps::reset, Stations.NOT_POSSIBLE);
        BUSY.refuses(due, FieldPumps::play, Stations.NOT_POSSIBLE);
        BUSY.refuses(due, x -> x.readyAt(x.count(4)), Stations.NOT_FOUND);
        BUSY.refuses(due, x -> x.nightAt(1), Stations.NOT_FOUND);
        BUSY.refuses(due, x -> x.eventAt(x.count(6), 0), Stations.NOT_FOUND);
        // The waking, the only one of the first minute that has no pump.
        BUSY.refuses(due, x -> x.eventAt(x.count(6) - 2, 2), Stations.NOT_FOUND);
    }

    private static void ofAFullOne() {
        FieldPumps full = FULL.anew();
        due.is(full.count(0), 6);
        due.is(full.count(1), 8);
        due.is(full.count(2), 8);
        due.is(full.count(5), 7);
        due.is(full.count(6), 12);
        due.is(full.count(7), 20000);
        due.is(full.count(9), 4);
        due.is(full.count(10), 60);
        FULL.refuses(due, x -> x.pump(0, 500, 5), Stations.LIMIT);
        FULL.refuses(due, x -> x.zone(5), Stations.LIMIT);
        FULL.refuses(due, x -> x.programme(0, 1, 2), Stations.LIMIT);
        FULL.refuses(due, x -> x.pass(1), Stations.LIMIT);
        FULL.refuses(due, x -> x.pass(240), Stations.LIMIT);
        FULL.refuses(due, x -> x.type('o'), Stations.LIMIT);
        FULL.refuses(due, x -> x.service(0, 1), Stations.NOT_POSSIBLE);
        FULL.refuses(due, x -> x.service(1, 0), Stations.NOT_POSSIBLE);
        FULL.refuses(due, x -> x.open(0, 1), Stations.NOT_POSSIBLE);
        FULL.refuses(due, x -> x.open(7, 0), Stations.NOT_POSSIBLE);
        FULL.refuses(due, FieldPumps::reset, Stations.NOT_POSSIBLE);
        // Its minutes would go by beyond the time 20000, which makes it a text with a fault.
        FULL.refuses(due, FieldPumps::play, Stations.NOT_POSSIBLE);
        FULL.refuses(due, x -> x.readyAt(6), Stations.NOT_FOUND);
        FULL.refuses(due, x -> x.nightAt(7), Stations.NOT_FOUND);
        FULL.refuses(due, x -> x.eventAt(12, 0), Stations.NOT_FOUND);
        FULL.refuses(due, x -> x.eventAt(12, 2), Stations.NOT_FOUND);
    }

    private static void ofADryOne() {
        FieldPumps dry = DRY.anew();
        due.is(dry.station(6), 1);
        due.is(dry.station(7), 3);
        due.is(dry.count(9), 4);
        DRY.refuses(due, x -> x.service(0, 1), Stations.NOT_POSSIBLE);
        DRY.refuses(due, x -> x.open(0, 0), Stations.NOT_POSSIBLE);
        DRY.refuses(due, x -> x.service(2, 1), Stations.INVALID);
        DRY.refuses(due, x -> x.open(1, 1), Stations.INVALID);
        DRY.refuses(due, x -> x.station(4), Stations.NOT_FOUND);
        DRY.refuses(due, x -> x.foresee(1440, 3), Stations.NOT_FOUND);
        DRY.refuses(due, x -> x.fault(0), Stations.NOT_FOUND);
        // The trip has no pump.
        DRY.refuses(due, x -> x.eventAt(0, 2), Stations.NOT_FOUND);
        for (int kind = 0; kind <= 7; kind++) {
            int asked = kind;
            DRY.refuses(due, x -> x.foreseeEvent(asked), Stations.NOT_FOUND);
        }
    }

    /** A station with everything in it, but no state to go back to. */
    private static void ofAnEmptyHistory() {
        Made undone = new Made(() -> {
            FieldPumps x = Stations.busy();
            due.is(x.undo(), 2);
            due.is(x.undo(), 1);
            due.is(x.undo(), 0);
            return x;
        });
        undone.refuses(due, FieldPumps::undo, Stations.NOT_POSSIBLE);
        undone.refuses(due, FieldPumps::reset, Stations.NOT_POSSIBLE);
        undone.refuses(due, x -> x.fill(20001), Stations.INVALID);
        undone.changes(due, x -> x.fill(20000), undone.anew().station(1));
    }
}
