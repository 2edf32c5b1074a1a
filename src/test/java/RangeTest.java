import java.util.function.IntFunction;
import java.util.function.ToIntFunction;

/**
 * Every range that the document names: a call is taken at both of its ends, and answers and does what
 * is due there, and is refused just beyond them, whatever the other arguments are.
 */
public final class RangeTest {
    private static final Due due = new Due("RangeTest");

    private static final Made FRESH = new Made(FieldPumps::new);
    /** A pump that rests, a zone that is closed, at the time 0. */
    private static final Made SMALL = new Made(RangeTest::small);
    private static final Made BUSY = new Made(Stations::busy);

    public static void main(String[] args) {
        settings();
        pumps();
        services();
        whatOfPumps();
        curves();
        indexes();
        zones();
        opening();
        leaks();
        programmes();
        whatOfZones();
        levels();
        minutes();
        forecasts();
        whatOfTheStation();
        whatOfEvents();
        counts();
        characters();
        faults();
        due.end();
    }

    private static FieldPumps small() {
        FieldPumps x = new FieldPumps();
        x.pump(0, 500, 5);
        x.zone(100);
        return x;
    }

    /** Refused below the least and above the most value, taken at both and beside them. */
    private static void range(Made made, int least, int most, IntFunction<ToIntFunction<FieldPumps>> call) {
        made.refuses(due, call.apply(least - 1), Stations.INVALID);
        made.refuses(due, call.apply(most + 1), Stations.INVALID);
        for (int value : new int[] {least, Math.min(most, least + 1), Math.max(least, most - 1), most}) {
            int answer = call.apply(value).applyAsInt(made.anew());
            due.isTrue(value + " is taken: " + answer, answer >= 0 || answer == Stations.NOT_FOUND);
        }
    }

    /** "The settings are (in parentheses: range; first value): .." */
    private static void settings() {
        range(FRESH, 0, 18, what -> x -> x.set(what, Stations.SETTINGS[Math.floorMod(what, 19)][2]));
        for (int i = 0; i < Stations.SETTINGS.length; i++) {
            int what = i;
            int least = Stations.SETTINGS[i][0];
            int most = Stations.SETTINGS[i][1];
            int first = Stations.SETTINGS[i][2];
            due.is(new FieldPumps().count(20 + i), first);
            range(FRESH, least, most, value -> x -> x.set(what, value));
            range(BUSY, least, most, value -> x -> x.set(what, value));
            FRESH.changes(due, x -> x.set(what, least), first);
            FRESH.changes(due, x -> x.set(what, most), first);
            // One that is set to what it is, too, is a change.
            FRESH.changes(due, x -> x.set(what, first), first);
            FieldPumps x = new FieldPumps();
            due.is(x.set(what, least), first);
            due.is(x.count(20 + what), least);
            due.is(x.set(what, most), least);
            due.is(x.count(20 + what), most);
            for (int other = 0; other < Stations.SETTINGS.length; other++) {
                due.is(x.count(20 + other), other == what ? most : Stations.SETTINGS[other][2]);
            }
        }
    }

    /** "kind: 0 to 2; shutoff: 100 to 2000; steep: its steepness, 1 to 1000" */
    private static void pumps() {
        range(SMALL, 0, 2, kind -> x -> x.pump(kind, 500, 5));
        range(SMALL, 100, 2000, shutoff -> x -> x.pump(0, shutoff, 5));
        range(SMALL, 1, 1000, steep -> x -> x.pump(0, 500, steep));
        int[][] pumps = {{0, 100, 1}, {1, 100, 1000}, {2, 2000, 1}, {2, 2000, 1000}};
        for (int[] pump : pumps) {
            SMALL.changes(due, x -> x.pump(pump[0], pump[1], pump[2]), 1);
            FieldPumps x = SMALL.anew();
            due.is(x.pump(pump[0], pump[1], pump[2]), 1);
            for (int what = 0; what < 3; what++) {
                due.is(x.pumpOf(1, what), pump[what]);
            }
            // In service at first, resting, and without minutes.
            due.is(x.pumpOf(1, 3), 1);
            for (int what = 4; what <= 9; what++) {
                due.is(x.pumpOf(1, what), 0);
            }
        }
    }

    /** "is: 0 if it is taken out of service, 1 if it is brought into service again" */
    private static void services() {
        SMALL.refuses(due, x -> x.service(-1, 0), Stations.INVALID);
        SMALL.refuses(due, x -> x.service(1, 0), Stations.INVALID);
        SMALL.refuses(due, x -> x.service(0, -1), Stations.INVALID);
        SMALL.refuses(due, x -> x.service(0, 2), Stations.INVALID);
        SMALL.refuses(due, x -> x.service(0, 1), Stations.NOT_POSSIBLE);
        SMALL.changes(due, x -> x.service(0, 0), 0);
        Made without = new Made(() -> {
            FieldPumps x = small();
            x.service(0, 0);
            return x;
        });
        without.refuses(due, x -> x.service(0, 0), Stations.NOT_POSSIBLE);
        without.refuses(due, x -> x.service(0, 2), Stations.INVALID);
        without.refuses(due, x -> x.service(1, 1), Stations.INVALID);
        without.changes(due, x -> x.service(0, 1), 0);
        Made running = new Made(() -> {
            FieldPumps x = small();
            x.pass(1);
            return x;
        });
        running.refuses(due, x -> x.service(0, 1), Stations.NOT_POSSIBLE);
        running.changes(due, x -> x.service(0, 0), 1);
    }

    /** "what: 0: its kind; .. 9: its flow now, 0 if it rests" */
    private static void whatOfPumps() {
        range(BUSY, 0, 9, what -> x -> x.pumpOf(0, what));
        range(BUSY, 0, 2, pump -> x -> x.pumpOf(pump, 0));
        range(BUSY, 0, 2, pump -> x -> x.pumpOf(pump, 9));
        due.is(BUSY.anew().pumpOf(0, 0), 1);
        due.is(BUSY.anew().pumpOf(1, 0), 0);
        due.is(BUSY.anew().pumpOf(2, 0), 2);
    }

    /** "speed: 300 to 1000 (of a fixed one, too); pressure: 0 to 2000" */
    private static void curves() {
        for (int i = 0; i <= 2; i++) {
            int pump = i;
            range(BUSY, 300, 1000, speed -> x -> x.curve(pump, speed, 0));
            range(BUSY, 0, 2000, pressure -> x -> x.curve(pump, 1000, pressure));
        }
        range(BUSY, 0, 2, pump -> x -> x.curve(pump, 300, 0));
        FieldPumps x = BUSY.anew();
        // Lifts 63, 58.5 and 54 at 300; the roots of 63000 / 20, 58000 / 30 and 54000 / 400.
        due.is(x.curve(0, 300, 0), 56);
        due.is(x.curve(1, 300, 0), 43);
        due.is(x.curve(2, 300, 0), 11);
        due.is(x.curve(0, 1000, 0), 187);
        due.is(x.curve(1, 1000, 0), 147);
        due.is(x.curve(2, 1000, 0), 38);
        due.is(x.curve(2, 1000, 2000), 0);
    }

    /** "INVALID_ARGUMENT if index is negative; NOT_FOUND if there are not so many." */
    private static void indexes() {
        SMALL.refuses(due, x -> x.readyAt(-1), Stations.INVALID);
        SMALL.refuses(due, x -> x.readyAt(1), Stations.NOT_FOUND);
        SMALL.refuses(due, x -> x.readyAt(Integer.MAX_VALUE), Stations.NOT_FOUND);
        due.is(SMALL.anew().readyAt(0), 0);
        BUSY.refuses(due, x -> x.nightAt(-1), Stations.INVALID);
        BUSY.refuses(due, x -> x.nightAt(1), Stations.NOT_FOUND);
        BUSY.refuses(due, x -> x.nightAt(Integer.MAX_VALUE), Stations.NOT_FOUND);
        due.isTrue("the night is told", BUSY.anew().nightAt(0) >= 0);
        int events = BUSY.anew().count(6);
        due.isTrue("there are events", events > 1);
        BUSY.refuses(due, x -> x.eventAt(-1, 0), Stations.INVALID);
        BUSY.refuses(due, x -> x.eventAt(events, 0), Stations.NOT_FOUND);
        BUSY.refuses(due, x -> x.eventAt(events, 1), Stations.NOT_FOUND);
        BUSY.refuses(due, x -> x.eventAt(Integer.MAX_VALUE, 1), Stations.NOT_FOUND);
        // The very first one is a start of the jockey in the first minute.
        due.is(BUSY.anew().eventAt(events - 1, 0), 0);
        due.is(BUSY.anew().eventAt(events - 1, 1), 1);
        due.is(BUSY.anew().eventAt(events - 1, 2), 2);
    }

    /** "demand: 1 to 1000" */
    private static void zones() {
        range(FRESH, 1, 1000, demand -> x -> x.zone(demand));
        range(BUSY, 1, 1000, demand -> x -> x.zone(demand));
        for (int demand : new int[] {1, 2, 999, 1000}) {
            SMALL.changes(due, x -> x.zone(demand), 1);
            FieldPumps x = SMALL.anew();
            due.is(x.zone(demand), 1);
            due.is(x.zoneOf(1, 0), demand);
            // Closed at first.
            due.is(x.zoneOf(1, 1), 0);
            due.is(x.count(3), 0);
        }
    }

    /** "is: 1 or 0" */
    private static void opening() {
        SMALL.refuses(due, x -> x.open(-1, 1), Stations.INVALID);
        SMALL.refuses(due, x -> x.open(1, 1), Stations.INVALID);
        SMALL.refuses(due, x -> x.open(0, -1), Stations.INVALID);
        SMALL.refuses(due, x -> x.open(0, 2), Stations.INVALID);
        SMALL.refuses(due, x -> x.open(0, 0), Stations.NOT_POSSIBLE);
        SMALL.changes(due, x -> x.open(0, 1), 1);
        BUSY.refuses(due, x -> x.open(1, 1), Stations.NOT_POSSIBLE);
        BUSY.refuses(due, x -> x.open(1, 2), Stations.INVALID);
        BUSY.changes(due, x -> x.open(1, 0), 0);
        BUSY.changes(due, x -> x.open(0, 1), 2);
    }

    /** "leak: 0 to 1000", "0 at first" */
    private static void leaks() {
        range(FRESH, 0, 1000, leak -> x -> x.leak(leak));
        range(BUSY, 0, 1000, leak -> x -> x.leak(leak));
        due.is(new FieldPumps().leak(0), 0);
        FRESH.changes(due, x -> x.leak(0), 0);
        FRESH.changes(due, x -> x.leak(1000), 0);
        BUSY.changes(due, x -> x.leak(1000), 100);
        FieldPumps x = BUSY.anew();
        x.leak(1000);
        due.is(x.leak(0), 1000);
        due.is(x.leak(1), 0);
        due.is(x.leak(999), 1);
    }

    /** "from: 0 to 1439; to: 0 to 1439; INVALID_ARGUMENT if .. both minutes are the same" */
    private static void programmes() {
        range(SMALL, 0, 1439, from -> x -> x.programme(0, from, 700));
        range(SMALL, 0, 1439, to -> x -> x.programme(0, 700, to));
        range(BUSY, 0, 1, zone -> x -> x.programme(zone, 1, 2));
        for (int minute : new int[] {0, 1, 700, 1438, 1439}) {
            SMALL.refuses(due, x -> x.programme(0, minute, minute), Stations.INVALID);
        }
        SMALL.changes(due, x -> x.programme(0, 0, 1439), 1);
        SMALL.changes(due, x -> x.programme(0, 1439, 0), 1);
        SMALL.changes(due, x -> x.programme(0, 0, 1), 1);
        SMALL.changes(due, x -> x.programme(0, 1439, 1438), 1);
        BUSY.changes(due, x -> x.programme(1, 20, 60), 2);
    }

    /** "what: 0: its demand; .. 3: its programmes" */
    private static void whatOfZones() {
        range(BUSY, 0, 3, what -> x -> x.zoneOf(1, what));
        range(BUSY, 0, 1, zone -> x -> x.zoneOf(zone, 0));
        range(BUSY, 0, 1, zone -> x -> x.zoneOf(zone, 3));
        due.is(BUSY.anew().zoneOf(0, 3), 1);
        due.is(BUSY.anew().zoneOf(1, 3), 0);
    }

    /** "level: 0 to 20000", "10000 at first" */
    private static void levels() {
        range(FRESH, 0, 20000, level -> x -> x.fill(level));
        range(BUSY, 0, 20000, level -> x -> x.fill(level));
        for (int level : new int[] {0, 1, 10000, 19999, 20000}) {
            FRESH.changes(due, x -> x.fill(level), 10000);
            FieldPumps x = new FieldPumps();
            due.is(x.fill(level), 10000);
            due.is(x.station(1), level);
            due.is(x.fill(1), level);
        }
    }

    /** "minutes: 1 to 240" */
    private static void minutes() {
        range(FRESH, 1, 240, minutes -> x -> x.pass(minutes));
        range(BUSY, 1, 240, minutes -> x -> x.pass(minutes));
        for (int minutes : new int[] {1, 2, 239, 240}) {
            FRESH.changes(due, x -> x.pass(minutes), minutes);
            BUSY.changes(due, x -> x.pass(minutes), 100 + minutes);
        }
    }

    /** "minutes: 1 to 1440; what: 0: the pressure; .. 4: the supply of the last minute", "kind: 0 to 7" */
    private static void forecasts() {
        for (int i = 0; i <= 4; i++) {
            int what = i;
            range(BUSY, 1, 1440, minutes -> x -> x.foresee(minutes, what));
        }
        range(BUSY, 0, 4, what -> x -> x.foresee(1, what));
        range(BUSY, 0, 4, what -> x -> x.foresee(1440, what));
        range(BUSY, 0, 7, kind -> x -> x.foreseeEvent(kind));
        for (int minutes : new int[] {1, 2, 1439, 1440}) {
            FieldPumps x = FRESH.anew();
            x.set(14, 1);
            due.is(x.foresee(minutes, 1), 10000 + minutes);
        }
    }

    /** "what: 0: the pressure; .. 14: all that was supplied" */
    private static void whatOfTheStation() {
        range(BUSY, 0, 14, what -> x -> x.station(what));
        range(FRESH, 0, 14, what -> x -> x.station(what));
    }

    /** "what: 0: its kind; 1: its time; 2: its pump" */
    private static void whatOfEvents() {
        range(BUSY, 0, 2, what -> x -> x.eventAt(x.count(6) - 1, what));
        range(FRESH, 0, 2, what -> x -> x.eventAt(0, what));
    }

    /** "what: 0: pumps; .. 10: the length of the text; 20 to 38: the settings 0 to 18" */
    private static void counts() {
        range(BUSY, 0, 10, what -> x -> x.count(what));
        range(BUSY, 20, 38, what -> x -> x.count(what));
        for (int i = 11; i <= 19; i++) {
            int what = i;
            BUSY.refuses(due, x -> x.count(what), Stations.INVALID);
        }
    }

    /** "character: 32 to 126" */
    private static void characters() {
        range(FRESH, 32, 126, character -> x -> x.type(character));
        range(BUSY, 32, 126, character -> x -> x.type(character));
        for (int character = 32; character <= 126; character++) {
            FieldPumps x = new FieldPumps();
            due.is(x.type(character), 1);
            due.is(x.count(10), 1);
            // It is no change.
            due.is(x.count(9), 0);
            // None is an order by itself.
            due.is(x.fault(0), 0);
            due.is(x.fault(1), 1);
        }
    }

    /** "what: 0: its position; 1: its reason" */
    private static void faults() {
        range(FRESH, 0, 1, what -> x -> x.fault(what));
        Made typed = new Made(() -> {
            FieldPumps x = small();
            Stations.type(x, "p1;o1;");
            return x;
        });
        range(typed, 0, 1, what -> x -> x.fault(what));
        due.is(typed.anew().fault(0), 3);
        due.is(typed.anew().fault(1), 2);
    }
}
