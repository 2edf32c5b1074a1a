import java.util.List;
import java.util.function.ToIntFunction;

/** How many there may be of what the document limits: up to the limit, at it and just beyond it. */
public final class LimitTest {
    private static final Due due = new Due("LimitTest");

    public static void main(String[] args) {
        callsOfAnObject();
        sixPumps();
        eightZones();
        eightProgrammes();
        sevenNights();
        twelveEvents();
        moreEventsThanAreKept();
        sixtyCharacters();
        fourStates();
        theFifthChangeOfEachKind();
        theTime();
        theTimeOfOrders();
        theMinuteOfTheDay();
        eventsWithinADay();
        forecastsBeyondTheLatestTime();
        due.end();
    }

    /** "An object is used for at most 512 calls after it has been made" */
    private static void callsOfAnObject() {
        FieldPumps x = new FieldPumps();
        for (int call = 1; call <= 508; call++) {
            due.is(x.pass(1), call);
        }
        due.is(x.count(7), 508);
        due.is(x.undo(), 3);
        due.is(x.pass(2), 509);
        due.is(x.count(7), 509);
        // What later calls answer is free, but they end, and none throws.
        x.pass(240);
        x.undo();
        x.count(7);
    }

    /** "There are at most 6 pumps, numbered from 0" */
    private static void sixPumps() {
        FieldPumps x = new FieldPumps();
        for (int i = 0; i < 6; i++) {
            due.is(x.count(0), i);
            due.is(x.pumpOf(i, 0), Stations.INVALID);
            due.is(x.pump(i % 3, 500 + i, 5 + i), i);
            due.is(x.pumpOf(i, 1), 500 + i);
        }
        due.is(x.count(0), 6);
        due.is(x.pump(0, 100, 1), Stations.LIMIT);
        due.is(x.pump(0, 99, 1), Stations.INVALID);
        due.is(x.pump(3, 100, 1), Stations.INVALID);
        due.is(x.pump(0, 100, 1001), Stations.INVALID);
        due.is(x.count(0), 6);
        due.is(x.count(9), 4);
        // The sixth one can be added again when it is undone, and has nothing of the first one.
        x.pass(1);
        due.is(x.undo(), 3);
        due.is(x.undo(), 2);
        due.is(x.pumpOf(5, 0), Stations.INVALID);
        due.is(x.pump(1, 2000, 1000), 5);
        due.is(x.pumpOf(5, 0), 1);
        due.is(x.pumpOf(5, 1), 2000);
        due.is(x.pumpOf(5, 8), 0);
    }

    /** "There are at most 8 zones, numbered from 0" */
    private static void eightZones() {
        FieldPumps x = new FieldPumps();
        for (int i = 0; i < 8; i++) {
            due.is(x.count(1), i);
            due.is(x.zoneOf(i, 0), Stations.INVALID);
            due.is(x.zone(1 + i), i);
            due.is(x.open(i, 1), i + 1);
        }
        due.is(x.count(1), 8);
        due.is(x.count(3), 8);
        due.is(x.zone(1), Stations.LIMIT);
        due.is(x.zone(0), Stations.INVALID);
        due.is(x.zone(1001), Stations.INVALID);
        due.is(x.open(8, 1), Stations.INVALID);
        due.is(x.count(1), 8);
        due.is(x.undo(), 3);
        due.is(x.undo(), 2);
        due.is(x.zone(1000), 7);
        due.is(x.zoneOf(7, 0), 1000);
        due.is(x.zoneOf(7, 1), 0);
        due.is(x.zone(1), Stations.LIMIT);
    }

    /** "There are at most 8 programmes" */
    private static void eightProgrammes() {
        FieldPumps x = new FieldPumps();
        x.zone(10);
        x.zone(20);
        for (int i = 0; i < 8; i++) {
            due.is(x.count(2), i);
            due.is(x.programme(i / 7, 10 + i, 20 + i), i + 1);
        }
        due.is(x.count(2), 8);
        due.is(x.zoneOf(0, 3), 7);
        due.is(x.zoneOf(1, 3), 1);
        due.is(x.programme(0, 1, 2), Stations.LIMIT);
        due.is(x.programme(0, 1, 1), Stations.INVALID);
        due.is(x.programme(2, 1, 2), Stations.INVALID);
        due.is(x.programme(0, 1440, 2), Stations.INVALID);
        due.is(x.count(2), 8);
        // The eighth one opens its zone, and the ninth one is none.
        x.pass(16);
        due.is(x.zoneOf(1, 1), 0);
        x.pass(1);
        due.is(x.zoneOf(1, 1), 1);
        due.is(x.undo(), 3);
        due.is(x.undo(), 2);
        due.is(x.undo(), 1);
        due.is(x.count(2), 7);
        due.is(x.programme(0, 1, 2), 8);
        due.is(x.programme(0, 1, 2), Stations.LIMIT);
    }

    /** "At most 7 nights stay noted; the oldest one goes first." */
    private static void sevenNights() {
        FieldPumps x = Stations.giving(200);
        for (int night = 1; night <= 9; night++) {
            Stations.night(x, night);
            int noted = Math.min(7, night);
            due.is(x.count(5), noted);
            for (int index = 0; index < noted; index++) {
                due.is(x.nightAt(index), night - index);
            }
            due.is(x.nightAt(noted), Stations.NOT_FOUND);
        }
    }

    /** "Events are kept, at most 12; the oldest one goes first" */
    private static void twelveEvents() {
        FieldPumps x = new FieldPumps();
        x.set(13, 1);
        for (int event = 1; event <= 14; event++) {
            // A trip at the times 1, 2 and so on, and behind it a reset at the same time.
            if (event % 2 == 1) {
                x.fill(0);
                due.is(x.pass(1), event / 2 + 1);
            } else {
                x.fill(2000);
                due.is(x.reset(), 1);
            }
            int kept = Math.min(12, event);
            due.is(x.count(6), kept);
            for (int index = 0; index < kept; index++) {
                int told = event - index;
                due.is(x.eventAt(index, 0), told % 2 == 1 ? 4 : 5);
                due.is(x.eventAt(index, 1), (told + 1) / 2);
                due.is(x.eventAt(index, 2), Stations.NOT_FOUND);
            }
            for (int what = 0; what <= 2; what++) {
                due.is(x.eventAt(kept, what), Stations.NOT_FOUND);
            }
        }
    }

    /** Of one minute, too: six stops, a trip, going on, waking by a start, and one start more. */
    private static void moreEventsThanAreKept() {
        FieldPumps x = new FieldPumps();
        for (int i = 0; i < 6; i++) {
            x.pump(0, 400, 1000);
        }
        x.set(5, 1);
        Stations.keepInTank(x, 20000);
        // The minute of waking counts: two are started in it, then one in each.
        x.pass(5);
        due.is(x.station(5), 6);
        due.is(x.count(6), 7);
        x.set(11, 10000);
        x.set(12, 0);
        x.set(13, 1);
        x.fill(9999);
        due.is(x.foreseeEvent(4), 1);
        due.is(x.foreseeEvent(5), 1);
        x.pass(1);
        int[] kinds = {1, 1, 1, 1, 1, 1, 4, 5, 0, 3};
        due.is(x.count(6), 12);
        // The one with the fewest minutes wakes; this counts, so the next one is started behind it.
        due.is(x.eventAt(0, 0), 0);
        due.is(x.eventAt(0, 2), 4);
        for (int i = 0; i < kinds.length; i++) {
            due.is(x.eventAt(10 - i, 0), kinds[i]);
            due.is(x.eventAt(10 - i, 1), 6);
            due.is(x.eventAt(10 - i, 2), i < 6 ? i : kinds[i] == 0 ? 5 : Stations.NOT_FOUND);
        }
        due.is(x.eventAt(11, 0), 0);
        due.is(x.eventAt(11, 1), 5);
        due.is(x.eventAt(11, 2), 5);
        due.is(x.eventAt(12, 0), Stations.NOT_FOUND);
    }

    /** "There is a text of at most 60 characters, initially empty" */
    private static void sixtyCharacters() {
        FieldPumps x = new FieldPumps();
        due.is(x.count(10), 0);
        for (int i = 1; i <= 60; i++) {
            due.is(x.type(i % 3 == 1 ? 'p' : i % 3 == 2 ? '1' : ';'), i);
            due.is(x.count(10), i);
        }
        due.is(x.type('p'), Stations.LIMIT);
        due.is(x.type(32), Stations.LIMIT);
        due.is(x.type(126), Stations.LIMIT);
        due.is(x.type(31), Stations.INVALID);
        due.is(x.type(127), Stations.INVALID);
        due.is(x.count(10), 60);
        due.is(x.fault(0), Stations.NOT_FOUND);
        due.is(x.play(), 20);
        due.is(x.count(7), 20);
        due.is(x.clearText(), 60);
        due.is(x.clearText(), 0);
        due.is(x.type('r'), 1);
    }

    /** "A history of at most 4 states is kept: .. if there are 5 states then, the oldest one is dropped." */
    private static void fourStates() {
        FieldPumps x = new FieldPumps();
        for (int changes = 1; changes <= 9; changes++) {
            due.is(x.fill(100 + changes), changes == 1 ? 10000 : 99 + changes);
            due.is(x.count(9), Math.min(4, changes));
        }
        for (int left = 3; left >= 0; left--) {
            due.is(x.undo(), left);
            due.is(x.count(9), left);
            due.is(x.station(1), 105 + left);
        }
        due.is(x.undo(), Stations.NOT_POSSIBLE);
        due.is(x.station(1), 105);
        // One that is undone makes room for another one.
        for (int changes = 1; changes <= 4; changes++) {
            x.fill(changes);
        }
        due.is(x.undo(), 3);
        x.fill(50);
        due.is(x.count(9), 4);
        int[] levels = {3, 2, 1, 105};
        for (int i = 0; i < 4; i++) {
            due.is(x.undo(), 3 - i);
            due.is(x.station(1), levels[i]);
        }
        due.is(x.undo(), Stations.NOT_POSSIBLE);
    }

    /** "The changes are the calls of set, pump, service, zone, open, leak, programme, fill, reset, .." */
    private static void theFifthChangeOfEachKind() {
        List<ToIntFunction<FieldPumps>> changes = List.of(x -> x.set(0, 500), x -> x.pump(0, 500, 5),
            x -> x.service(0, 0), x -> x.zone(5), x -> x.open(0, 1), x -> x.leak(7),
            x -> x.programme(0, 1, 2), x -> x.fill(77), FieldPumps::reset, x -> x.pass(1),
            FieldPumps::play);
        for (ToIntFunction<FieldPumps> change : changes) {
            FieldPumps x = Stations.dry();
            x.clearText();
            due.is(x.count(9), 4);
            String before = Stations.present(x);
            due.isTrue("it is a change", change.applyAsInt(x) >= 0);
            due.is(x.count(9), 4);
            due.is(x.undo(), 3);
            due.same("undone", Stations.present(x), before);
            // The last three changes but one: the pass, and two settings.
            due.is(x.undo(), 2);
            due.is(x.count(7), 0);
            due.is(x.station(1), 1);
            due.is(x.undo(), 1);
            due.is(x.station(1), 10000);
            due.is(x.undo(), 0);
            due.is(x.count(32), 2000);
            due.is(x.count(34), 0);
            due.is(x.undo(), Stations.NOT_POSSIBLE);
        }
    }

    /** "LIMIT_REACHED if it would be greater than 20000." */
    private static void theTime() {
        FieldPumps x = new FieldPumps();
        Stations.passLong(x, 19760);
        due.is(x.count(7), 19760);
        due.is(x.pass(240), 20000);
        due.is(x.pass(1), Stations.LIMIT);
        due.is(x.pass(240), Stations.LIMIT);
        due.is(x.pass(0), Stations.INVALID);
        due.is(x.pass(241), Stations.INVALID);
        due.is(x.undo(), 3);
        due.is(x.pass(1), 19761);
        due.is(x.pass(240), Stations.LIMIT);
        due.is(x.count(7), 19761);
        due.is(x.pass(239), 20000);
        due.is(x.undo(), 3);
        due.is(x.pass(238), 19999);
        due.is(x.pass(2), Stations.LIMIT);
        due.is(x.pass(1), 20000);
        due.is(x.count(7), 20000);
        due.is(x.count(8), 1280);
        // Other changes are possible then.
        due.is(x.fill(5), 20000);
        due.is(x.pump(0, 500, 5), 0);
    }

    /** Of the orders of a text the minutes are no more either; they are told by its fault. */
    private static void theTimeOfOrders() {
        FieldPumps x = new FieldPumps();
        Stations.passLong(x, 19760);
        Stations.type(x, "p240;");
        due.is(x.fault(0), Stations.NOT_FOUND);
        Stations.type(x, "p1;");
        due.is(x.fault(0), 5);
        due.is(x.fault(1), 3);
        due.is(x.play(), Stations.NOT_POSSIBLE);
        due.is(x.count(7), 19760);
        Stations.retype(x, "p239;p1;");
        due.is(x.play(), 2);
        due.is(x.count(7), 20000);
        due.is(x.fault(0), 0);
        due.is(x.fault(1), 3);
        due.is(x.play(), Stations.NOT_POSSIBLE);
    }

    /** "Time is told in minutes, 0 at first; the minute of the day is time mod 1440." */
    private static void theMinuteOfTheDay() {
        FieldPumps x = new FieldPumps();
        due.is(x.count(7), 0);
        due.is(x.count(8), 0);
        Stations.passLong(x, 1439);
        due.is(x.count(8), 1439);
        x.pass(1);
        due.is(x.count(7), 1440);
        due.is(x.count(8), 0);
        x.pass(1);
        due.is(x.count(8), 1);
        Stations.passLong(x, 1438);
        due.is(x.count(8), 1439);
        x.pass(1);
        due.is(x.count(7), 2880);
        due.is(x.count(8), 0);
    }

    /** "NOT_FOUND if there is none within 1440 minutes." */
    private static void eventsWithinADay() {
        // With a litre a minute the level to go on is reached behind as many minutes as it tells.
        FieldPumps x = new FieldPumps();
        x.set(14, 1);
        x.set(11, 10000);
        x.set(12, 10000);
        x.set(13, 1);
        x.fill(0);
        due.is(x.pass(1), 1);
        due.is(x.station(6), 1);
        int[] levels = {1, 2, 1439, 1440, 1441, 1442};
        for (int level : levels) {
            x.set(12, level + 1);
            due.is(x.station(1), 1);
            due.is(x.foreseeEvent(5), level <= 1440 ? level : Stations.NOT_FOUND);
        }
        // The event that is told comes then, and not a minute earlier.
        x.set(12, 1441);
        Stations.passLong(x, 1439);
        due.is(x.station(6), 1);
        due.is(x.foreseeEvent(5), 1);
        x.pass(1);
        due.is(x.station(6), 0);
        due.is(x.eventAt(0, 0), 5);
        due.is(x.eventAt(0, 1), 1441);
    }

    /** No sentence binds what is foretold by the time 20000: nothing is done, but minutes go by. */
    private static void forecastsBeyondTheLatestTime() {
        FieldPumps x = new FieldPumps();
        x.set(14, 1);
        Stations.passLong(x, 20000);
        x.fill(0);
        for (int minutes : new int[] {1, 2, 1439, 1440}) {
            due.is(x.foresee(minutes, 1), minutes);
        }
        due.is(x.foreseeEvent(4), 2);
        due.is(x.foresee(1441, 1), Stations.INVALID);
    }
}
