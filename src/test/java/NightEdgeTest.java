import java.util.Arrays;

/** Edges of "A minute", 4: which minutes are in the night, and when its flow is a leak alarm. */
public final class NightEdgeTest {
    private static final Due due = new Due("NightEdgeTest");

    public static void main(String[] args) {
        minutesOfTheNight();
        nightsBeyondTheEndOfTheDay();
        nightsOfEachDay();
        anewAtItsEndAlone();
        anEndThatIsPassedOver();
        theFirstAlarm();
        theMiddleOne();
        theLeakLimit();
        theOldestNightGoesFirst();
        alarmAheadOfATrip();
        due.end();
    }

    /** A night of these minutes; where it says so the flow of the only minute that gives, 9 litres. */
    private static FieldPumps at(int begin, int minutes, int time) {
        FieldPumps x = Stations.giving(200);
        x.set(15, begin);
        x.set(16, minutes);
        Stations.passLong(x, time - 2);
        x.fill(9);
        x.pass(1);
        due.is(x.count(7), time);
        due.is(x.station(2), 9);
        return x;
    }

    /** In the night but not its last minute: so the flow is there, and not noted. */
    private static void within(int begin, int minutes, int time) {
        FieldPumps x = at(begin, minutes, time);
        int noted = x.count(5);
        due.is(x.station(9), 9);
        Stations.passLong(x, 1440);
        due.is(x.count(5), noted + 1);
        due.is(x.nightAt(0), 9);
    }

    /** Its last minute: it is added, then all is noted. */
    private static void last(int begin, int minutes, int time) {
        FieldPumps x = at(begin, minutes, time);
        due.is(x.station(9), 0);
        due.isTrue("it is noted", x.count(5) >= 1);
        due.is(x.nightAt(0), 9);
    }

    /** Not in the night. */
    private static void beyond(int begin, int minutes, int time) {
        FieldPumps x = at(begin, minutes, time);
        due.is(x.station(9), 0);
        int noted = x.count(5);
        due.is(x.nightAt(0), noted == 0 ? Stations.NOT_FOUND : 0);
        Stations.passLong(x, 1440);
        due.is(x.count(5), noted + 1);
        due.is(x.nightAt(0), 0);
    }

    /** "the night (as many minutes as it has, its begin the first of them ..)" */
    private static void minutesOfTheNight() {
        beyond(60, 180, 59);
        within(60, 180, 60);
        within(60, 180, 61);
        within(60, 180, 238);
        last(60, 180, 239);
        beyond(60, 180, 240);
        // The ends of its minutes, 1 and 600.
        beyond(60, 1, 59);
        last(60, 1, 60);
        beyond(60, 1, 61);
        beyond(60, 600, 59);
        within(60, 600, 60);
        within(60, 600, 658);
        last(60, 600, 659);
        beyond(60, 600, 660);
        within(60, 2, 60);
        last(60, 2, 61);
        beyond(60, 2, 62);
    }

    /** "also beyond the end of the day" */
    private static void nightsBeyondTheEndOfTheDay() {
        beyond(1439, 1, 1438);
        last(1439, 1, 1439);
        beyond(1439, 1, 1440);
        within(1439, 2, 1439);
        last(1439, 2, 1440);
        beyond(1439, 2, 1441);
        within(1438, 2, 1438);
        last(1438, 2, 1439);
        beyond(1438, 2, 1440);
        // The begin of the day: the time 0 was no minute, 1440 is the first one.
        beyond(0, 1, 1439);
        last(0, 1, 1440);
        beyond(0, 1, 1441);
        within(0, 3, 1441);
        last(0, 3, 1442);
        // Up to the last minute of the day, and one more.
        beyond(840, 600, 839);
        within(840, 600, 840);
        last(840, 600, 1439);
        beyond(840, 600, 1440);
        within(841, 600, 1439);
        last(841, 600, 1440);
        beyond(841, 600, 1441);
        // The longest one: the minutes 1439 to 598.
        beyond(1439, 600, 1438);
        within(1439, 600, 1439);
        within(1439, 600, 1440);
        within(1439, 600, 597);
        last(1439, 600, 598);
        beyond(1439, 600, 599);
        last(1439, 600, 1440 + 598);
    }

    private static void nightsOfEachDay() {
        FieldPumps x = new FieldPumps();
        x.set(16, 1);
        for (int day = 0; day <= 3; day++) {
            Stations.passLong(x, day * 1440 + 59 - x.count(7));
            due.is(x.count(5), day);
            x.pass(1);
            due.is(x.count(5), day + 1);
        }
    }

    /** "and begins anew at 0 (then alone)": not at the begin of a night */
    private static void anewAtItsEndAlone() {
        FieldPumps x = Stations.giving(200);
        x.set(15, 2);
        x.set(16, 3);
        for (int minute = 2; minute <= 5; minute++) {
            x.fill(minute);
            x.pass(1);
            due.is(x.station(9), minute == 2 ? 2 : minute == 3 ? 5 : 0);
        }
        due.is(x.nightAt(0), 9);
        // Begun, and then moved: what it had so far is there at the begin of the other one.
        x.set(15, 6);
        x.fill(7);
        x.pass(1);
        due.is(x.station(9), 7);
        x.set(15, 8);
        x.fill(100);
        x.pass(1);
        due.is(x.station(9), 7);
        x.fill(8);
        x.pass(1);
        due.is(x.station(9), 15);
        x.fill(0);
        x.pass(2);
        due.is(x.nightAt(0), 15);
        due.is(x.station(9), 0);
    }

    /** A night that is made shorter within it has no last minute on this day. */
    private static void anEndThatIsPassedOver() {
        FieldPumps x = Stations.giving(200);
        x.set(15, 2);
        x.set(16, 10);
        x.fill(5);
        x.pass(3);
        due.is(x.station(9), 5);
        x.set(16, 2);
        x.pass(240);
        due.is(x.count(5), 0);
        due.is(x.station(9), 5);
        // One that is made to end in the next minute is noted then.
        x = Stations.giving(200);
        x.set(15, 2);
        x.set(16, 10);
        x.fill(5);
        x.pass(3);
        x.set(16, 4);
        x.pass(1);
        due.is(x.nightAt(0), 5);
    }

    /** Nights of these flows; whether the last one was a leak alarm. */
    private static boolean alarms(int limit, int... flows) {
        FieldPumps x = Stations.giving(200);
        x.set(17, limit);
        for (int i = 0; i < flows.length - 1; i++) {
            Stations.night(x, flows[i]);
        }
        int before = x.station(10);
        int events = x.count(6);
        Stations.night(x, flows[flows.length - 1]);
        boolean alarmed = x.station(10) == before + 1;
        due.is(x.station(10), alarmed ? before + 1 : before);
        due.is(x.count(6), alarmed ? Math.min(12, events + 1) : events);
        if (alarmed) {
            due.is(x.eventAt(0, 0), 6);
            due.is(x.eventAt(0, 1), flows.length + 1);
            due.is(x.eventAt(0, 2), Stations.NOT_FOUND);
        }
        // It is noted in any case.
        due.is(x.nightAt(0), flows[flows.length - 1]);
        return alarmed;
    }

    /** "if 3 nights at least have been noted before" */
    private static void theFirstAlarm() {
        due.isTrue("none before", !alarms(0, 1400));
        due.isTrue("one before", !alarms(0, 0, 1400));
        due.isTrue("two before", !alarms(0, 0, 0, 1400));
        due.isTrue("three before", alarms(0, 0, 0, 0, 1400));
        due.isTrue("four before", alarms(0, 0, 0, 0, 0, 1400));
    }

    /** "the middle one of these (of an even number the lower middle one)", not less and not equal */
    private static void theMiddleOne() {
        int[][] nights = {{20, 10, 30}, {10, 20, 30}, {30, 20, 10}, {20, 20, 20}, {20, 20, 90},
            {1, 20, 20}, {40, 20, 10, 30}, {10, 20, 30, 40}, {40, 30, 20, 10}, {20, 20, 20, 30},
            {10, 20, 90, 80}, {50, 20, 10, 30, 5}, {1, 2, 20, 30, 40}, {20, 20, 20, 10, 10},
            {60, 5, 50, 20, 10, 30}, {1, 2, 20, 30, 40, 50}, {7, 60, 5, 50, 20, 10, 30},
            {20, 1, 2, 3, 30, 40, 50}};
        for (int[] before : nights) {
            for (int flow = 69; flow <= 71; flow++) {
                int[] flows = Arrays.copyOf(before, before.length + 1);
                flows[before.length] = flow;
                due.isTrue(Arrays.toString(flows), alarms(50, flows) == (flow > 70));
            }
        }
    }

    /** "plus the leak limit" */
    private static void theLeakLimit() {
        due.isTrue("equal", !alarms(0, 7, 7, 7, 7));
        due.isTrue("less", !alarms(0, 7, 7, 7, 6));
        due.isTrue("greater by 1", alarms(0, 7, 7, 7, 8));
        due.isTrue("by the limit 1", !alarms(1, 7, 7, 7, 8));
        due.isTrue("by more than it", alarms(1, 7, 7, 7, 9));
        due.isTrue("by 1000", !alarms(1000, 0, 0, 0, 1000));
        due.isTrue("by 1001", alarms(1000, 0, 0, 0, 1001));
        // Above the greatest limit: a hundred minutes of 1000 litres.
        for (int rest = 0; rest <= 1; rest++) {
            FieldPumps x = Stations.giving(200);
            x.zone(1000);
            x.zone(1000);
            x.set(17, 100000);
            for (int i = 0; i < 3; i++) {
                Stations.night(x, 0);
            }
            x.set(15, x.count(8) + 1);
            x.set(16, 101);
            x.set(14, 1000);
            x.fill(1000);
            x.open(0, 1);
            x.open(1, 1);
            x.pass(100);
            due.is(x.station(9), 100000);
            x.fill(rest);
            x.pass(1);
            due.is(x.nightAt(0), 100000 + rest);
            due.is(x.station(10), rest);
        }
    }

    /** Seven are compared with, and no more: the eighth one before is gone. */
    private static void theOldestNightGoesFirst() {
        // Of the seven 0, 1, 2, 10, 20, 30, 40 the middle one is 10.
        due.isTrue("not above 10", !alarms(0, 0, 1, 2, 10, 20, 30, 40, 10));
        due.isTrue("above 10", alarms(0, 0, 1, 2, 10, 20, 30, 40, 11));
        // Without the 0, which was the first, but with a 50 it is 20.
        due.isTrue("not above 20", !alarms(0, 0, 1, 2, 10, 20, 30, 40, 50, 20));
        due.isTrue("above 20", alarms(0, 0, 1, 2, 10, 20, 30, 40, 50, 21));
        // With a 0 in place of the 40, which was the first, it is 2.
        due.isTrue("not above 2", !alarms(0, 40, 1, 2, 10, 20, 30, 0, 0, 2));
        due.isTrue("above 2", alarms(0, 40, 1, 2, 10, 20, 30, 0, 0, 3));
    }

    /** "In a minute, one after the other": 4, the alarm, then 5, a trip and going on, then 6, waking. */
    private static void alarmAheadOfATrip() {
        FieldPumps x = Stations.giving(200);
        x.set(17, 0);
        for (int night = 0; night < 3; night++) {
            Stations.night(x, 0);
        }
        x.set(11, 1);
        x.set(12, 0);
        x.set(13, 1);
        Stations.night(x, 100);
        due.is(x.station(10), 1);
        int[][] events = {{3, Stations.NOT_FOUND}, {0, 0}, {5, Stations.NOT_FOUND},
            {4, Stations.NOT_FOUND}, {1, 0}, {6, Stations.NOT_FOUND}};
        for (int i = 0; i < events.length; i++) {
            due.is(x.eventAt(i, 0), events[i][0]);
            due.is(x.eventAt(i, 1), 5);
            due.is(x.eventAt(i, 2), events[i][1]);
        }
    }
}
