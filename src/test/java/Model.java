import java.util.ArrayList;
import java.util.Comparator;
import java.util.List;
import java.util.regex.Matcher;
import java.util.regex.Pattern;
import java.util.stream.IntStream;

/** The document once more, written for plainness with the Java library, to be compared with. */
final class Model {
    static final int INVALID = Stations.INVALID;
    static final int NOT_POSSIBLE = Stations.NOT_POSSIBLE;
    static final int LIMIT = Stations.LIMIT;
    static final int NOT_FOUND = Stations.NOT_FOUND;

    private static final int[][] RANGES = {
        {100, 900}, {1, 100}, {0, 100}, {1, 500}, {300, 900}, {1, 60}, {1, 60}, {0, 1000}, {1, 60},
        {1, 300}, {1, 200}, {0, 10000}, {0, 10000}, {1, 60}, {0, 1000}, {0, 1439}, {1, 600},
        {0, 100000}, {0, 1440}};

    /** A pump, and a copy of it. */
    private static final class P {
        int number, kind, shutoff, steep, speed, ran, since, starts;
        boolean service = true, variable;

        P copy() {
            P p = new P();
            p.number = number;
            p.kind = kind;
            p.shutoff = shutoff;
            p.steep = steep;
            p.speed = speed;
            p.ran = ran;
            p.since = since;
            p.starts = starts;
            p.service = service;
            p.variable = variable;
            return p;
        }

        boolean runs() {
            return speed != 0;
        }

        boolean ready() {
            return service && !runs();
        }

        int flow(int atSpeed, int pressure) {
            long lift = (long) shutoff * atSpeed * atSpeed / 1000000L;
            return lift > pressure ? (int) Math.floor(Math.sqrt((lift - pressure) * 1000 / steep)) : 0;
        }
    }

    /** The state. */
    private static final class S {
        int[] set = {400, 20, 20, 100, 500, 3, 5, 60, 4, 60, 20, 500, 2000, 2, 300, 60, 180, 3000, 0};
        List<P> pumps = new ArrayList<>();
        List<int[]> zones = new ArrayList<>();      // demand, open
        List<int[]> programmes = new ArrayList<>(); // zone, from, to
        List<Integer> nights = new ArrayList<>();   // the latest one last
        List<int[]> events = new ArrayList<>();     // kind, time, pump; all of them
        int time, pressure, level = 10000, leak, supply, total, dryMinutes, trips, nightFlow, alarms;
        int toStart, toStop, toSleep;
        boolean dry;

        S copy() {
            S s = new S();
            s.set = set.clone();
            pumps.forEach(p -> s.pumps.add(p.copy()));
            zones.forEach(z -> s.zones.add(z.clone()));
            programmes.forEach(p -> s.programmes.add(p.clone()));
            s.nights.addAll(nights);
            s.events.addAll(events);
            s.time = time;
            s.pressure = pressure;
            s.level = level;
            s.leak = leak;
            s.supply = supply;
            s.total = total;
            s.dryMinutes = dryMinutes;
            s.trips = trips;
            s.nightFlow = nightFlow;
            s.alarms = alarms;
            s.toStart = toStart;
            s.toStop = toStop;
            s.toSleep = toSleep;
            s.dry = dry;
            return s;
        }

        P variable() {
            return pumps.stream().filter(p -> p.variable).findFirst().orElse(null);
        }

        List<P> running() {
            return pumps.stream().filter(P::runs).toList();
        }

        List<P> ready() {
            int jockeys = running().isEmpty() ? 0 : 2;
            return pumps.stream().filter(P::ready).sorted(
                Comparator.comparingInt((P p) -> p.kind == 2 ? jockeys : 1)
                    .thenComparingInt(p -> p.ran).thenComparingInt(p -> p.number)).toList();
        }

        void event(int kind, int pump) {
            events.add(new int[] {kind, time, pump});
        }

        void start(P p, int speed) {
            p.starts++;
            p.since = 0;
            p.speed = 1000;
            if (p.kind != 0) {
                P old = variable();
                if (old != null) {
                    old.variable = false;
                    old.speed = 1000;
                }
                p.variable = true;
                p.speed = speed;
            }
            event(0, p.number);
        }

        void stop(P p) {
            p.speed = 0;
            p.since = 0;
            if (p.variable) {
                p.variable = false;
                running().stream().filter(q -> q.kind != 0).min(Comparator.comparingInt(q -> q.ran))
                    .ifPresent(q -> q.variable = true);
            }
            event(1, p.number);
        }

        int demand() {
            return zones.stream().filter(z -> z[1] == 1).mapToInt(z -> z[0] * pressure / 400).sum()
                + leak * pressure / 1000;
        }

        void minute() {
            time++;
            int day = time % 1440;
            for (int[] p : programmes) {
                if (p[1] == day) {
                    zones.get(p[0])[1] = 1;
                }
                if (p[2] == day) {
                    zones.get(p[0])[1] = 0;
                }
            }
            int flow = pumps.stream().mapToInt(p -> p.runs() ? p.flow(p.speed, pressure) : 0).sum();
            supply = Math.min(flow, level);
            total += supply;
            level = Math.min(20000, level - supply + set[14]);
            running().forEach(p -> {
                p.ran++;
                p.since++;
            });
            pressure += (supply - demand()) / set[10];
            pressure = Math.max(0, Math.min(2000, pressure));
            IntStream night = IntStream.range(0, set[16]).map(i -> (set[15] + i) % 1440);
            if (night.anyMatch(m -> m == day)) {
                nightFlow += supply;
            }
            if (day == (set[15] + set[16] - 1) % 1440) {
                if (nights.size() >= 3) {
                    List<Integer> sorted = nights.stream().sorted().toList();
                    if (nightFlow > sorted.get((sorted.size() + 1) / 2 - 1) + set[17]) {
                        alarms++;
                        event(6, -1);
                    }
                }
                nights.add(nightFlow);
                if (nights.size() > 7) {
                    nights.remove(0);
                }
                nightFlow = 0;
            }
            if (level < set[11]) {
                dryMinutes++;
            } else {
                dryMinutes = 0;
            }
            if (dryMinutes >= set[13] && !dry) {
                running().forEach(this::stop);
                dry = true;
                trips++;
                event(4, -1);
            }
            if (level >= set[12] && dry && trips < 3) {
                dry = false;
                event(5, -1);
            }
            if (dry) {
                toStart = toStop = toSleep = 0;
            } else {
                control();
            }
        }

        void control() {
            P v = variable();
            if (v != null) {
                int change = (set[0] - pressure) * set[2] / 100;
                if (change > set[3]) {
                    change = set[3];
                }
                if (change < -set[3]) {
                    change = -set[3];
                }
                v.speed += change;
                if (v.speed < set[4]) {
                    v.speed = set[4];
                }
                if (v.speed > 1000) {
                    v.speed = 1000;
                }
            }
            if (running().isEmpty() && pressure < set[0] - set[9] && !ready().isEmpty()) {
                start(ready().get(0), set[4]);
                event(3, -1);
            }
            v = variable();
            boolean any = !running().isEmpty();
            toStart = any && pressure < set[0] - set[1] && (v == null || v.speed == 1000) ? toStart + 1 : 0;
            toStop = any && pressure > set[0] + set[1] && (v == null || v.speed == set[4]) ? toStop + 1 : 0;
            toSleep = running().size() == 1 && v != null && v.speed == set[4] && supply < set[7]
                ? toSleep + 1 : 0;
            if (toStart >= set[5] && !ready().isEmpty()) {
                start(ready().get(0), set[4]);
                toStart = toStop = toSleep = 0;
            } else if (toStop >= set[6] && (running().size() >= 2 || v == null)) {
                stop(running().stream().filter(p -> !p.variable)
                    .min(Comparator.comparingInt(p -> -p.ran)).get());
                toStart = toStop = toSleep = 0;
            } else if (toSleep >= set[8]) {
                stop(v);
                event(2, -1);
                toStart = toStop = toSleep = 0;
            }
            P old = variable();
            if (set[18] > 0 && old != null && old.since >= set[18]) {
                pumps.stream().filter(p -> p.ready() && p.kind != 0 && p.ran < old.ran)
                    .min(Comparator.comparingInt(p -> p.ran)).ifPresent(p -> {
                        start(p, old.speed);
                        event(7, p.number);
                        stop(old);
                    });
            }
        }

        void forgetTrips() {
            trips = 0;
            if (dry && level >= set[12]) {
                dry = false;
                event(5, -1);
            }
        }

        /** The event that is the index-th latest one of those kept, or null. */
        int[] event(long index) {
            return index < Math.min(12, events.size()) ? events.get(events.size() - 1 - (int) index) : null;
        }
    }

    private S now = new S();
    private final List<S> history = new ArrayList<>();
    private String text = "";

    private static boolean in(int value, int least, int most) {
        return least <= value && value <= most;
    }

    private boolean hasPump(int pump) {
        return in(pump, 0, now.pumps.size() - 1);
    }

    private boolean hasZone(int zone) {
        return in(zone, 0, now.zones.size() - 1);
    }

    private void remember() {
        history.add(now.copy());
        if (history.size() > 4) {
            history.remove(0);
        }
    }

    int call(String name, int... a) {
        return switch (name) {
            case "set", "pump", "service", "zone", "open", "leak", "programme", "fill", "reset", "pass",
                "play" -> change(name, a);
            case "pumpOf" -> pumpOf(a[0], a[1]);
            case "curve" -> hasPump(a[0]) && in(a[1], 300, 1000) && in(a[2], 0, 2000)
                ? now.pumps.get(a[0]).flow(a[1], a[2]) : INVALID;
            case "readyAt" -> a[0] < 0 ? INVALID
                : a[0] < now.ready().size() ? now.ready().get(a[0]).number : NOT_FOUND;
            case "balance" -> now.pumps.isEmpty() ? NOT_FOUND
                : now.pumps.stream().mapToInt(p -> p.ran).max().getAsInt()
                    - now.pumps.stream().mapToInt(p -> p.ran).min().getAsInt();
            case "zoneOf" -> zoneOf(a[0], a[1]);
            case "foresee" -> foresee(a[0], a[1]);
            case "foreseeEvent" -> foreseeEvent(a[0]);
            case "station" -> station(a[0]);
            case "nightAt" -> a[0] < 0 ? INVALID
                : a[0] < now.nights.size() ? now.nights.get(now.nights.size() - 1 - a[0]) : NOT_FOUND;
            case "eventAt" -> eventAt(a[0], a[1]);
            case "count" -> count(a[0]);
            case "undo" -> undo();
            case "type" -> type(a[0]);
            case "clearText" -> clearText();
            case "fault" -> {
                int[] fault = faultOf(now.copy());
                yield !in(a[0], 0, 1) ? INVALID : fault == null ? NOT_FOUND : fault[a[0]];
            }
            default -> throw new IllegalArgumentException(name);
        };
    }

    /** Does it on a copy; only if it is no error the copy is taken, and the state before recorded. */
    private int change(String name, int[] a) {
        S s = now.copy();
        int answer = name.equals("play") ? play(s) : doIt(s, name, a);
        if (answer >= 0) {
            remember();
            now = s;
        }
        return answer;
    }

    private int play(S s) {
        if (faultOf(s) != null) {
            return NOT_POSSIBLE;
        }
        return (int) text.chars().filter(c -> c == ';').count();
    }

    private static int doIt(S s, String name, int... a) {
        switch (name) {
            case "set": {
                if (!in(a[0], 0, 18) || !in(a[1], RANGES[a[0]][0], RANGES[a[0]][1])) {
                    return INVALID;
                }
                int before = s.set[a[0]];
                s.set[a[0]] = a[1];
                return before;
            }
            case "pump": {
                if (!in(a[0], 0, 2) || !in(a[1], 100, 2000) || !in(a[2], 1, 1000)) {
                    return INVALID;
                }
                if (s.pumps.size() == 6) {
                    return LIMIT;
                }
                P p = new P();
                p.number = s.pumps.size();
                p.kind = a[0];
                p.shutoff = a[1];
                p.steep = a[2];
                s.pumps.add(p);
                return p.number;
            }
            case "service": {
                if (!in(a[0], 0, s.pumps.size() - 1) || !in(a[1], 0, 1)) {
                    return INVALID;
                }
                P p = s.pumps.get(a[0]);
                if (p.service == (a[1] == 1)) {
                    return NOT_POSSIBLE;
                }
                p.service = a[1] == 1;
                if (p.service || !p.runs()) {
                    return 0;
                }
                s.stop(p);
                return 1;
            }
            case "zone":
                if (!in(a[0], 1, 1000)) {
                    return INVALID;
                }
                if (s.zones.size() == 8) {
                    return LIMIT;
                }
                s.zones.add(new int[] {a[0], 0});
                return s.zones.size() - 1;
            case "open":
                if (!in(a[0], 0, s.zones.size() - 1) || !in(a[1], 0, 1)) {
                    return INVALID;
                }
                if (s.zones.get(a[0])[1] == a[1]) {
                    return NOT_POSSIBLE;
                }
                s.zones.get(a[0])[1] = a[1];
                return s.zones.stream().mapToInt(z -> z[1]).sum();
            default:
                return doMore(s, name, a);
        }
    }

    private static int doMore(S s, String name, int... a) {
        switch (name) {
            case "leak": {
                if (!in(a[0], 0, 1000)) {
                    return INVALID;
                }
                int before = s.leak;
                s.leak = a[0];
                return before;
            }
            case "programme":
                if (!in(a[0], 0, s.zones.size() - 1) || !in(a[1], 0, 1439) || !in(a[2], 0, 1439)
                        || a[1] == a[2]) {
                    return INVALID;
                }
                if (s.programmes.size() == 8) {
                    return LIMIT;
                }
                s.programmes.add(a.clone());
                return s.programmes.size();
            case "fill": {
                if (!in(a[0], 0, 20000)) {
                    return INVALID;
                }
                int before = s.level;
                s.level = a[0];
                return before;
            }
            case "reset": {
                int before = s.trips;
                if (before == 0) {
                    return NOT_POSSIBLE;
                }
                s.forgetTrips();
                return before;
            }
            case "pass":
                if (!in(a[0], 1, 240)) {
                    return INVALID;
                }
                if (s.time + a[0] > 20000) {
                    return LIMIT;
                }
                for (int i = 0; i < a[0]; i++) {
                    s.minute();
                }
                return s.time;
            default:
                throw new IllegalArgumentException(name);
        }
    }

    /** Does the orders on the state; position and reason of the first that is not possible, or null. */
    private int[] faultOf(S s) {
        Pattern form = Pattern.compile("([ocsp])([0-9]{1,3});|(r);");
        Matcher matcher = form.matcher(text);
        int place = 0;
        while (place < text.length()) {
            matcher.region(place, text.length());
            if (!matcher.lookingAt()) {
                return new int[] {place, 1};
            }
            int number = matcher.group(2) == null ? 0 : Integer.parseInt(matcher.group(2));
            String order = matcher.group(3) == null ? matcher.group(1) : "r";
            if ("oc".contains(order) && number >= s.zones.size()
                    || order.equals("s") && number >= s.pumps.size()) {
                return new int[] {place, 2};
            }
            int answer = switch (order) {
                case "o" -> doIt(s, "open", number, 1);
                case "c" -> doIt(s, "open", number, 0);
                case "s" -> doIt(s, "service", number, 0);
                case "p" -> doIt(s, "pass", number);
                default -> doIt(s, "reset");
            };
            if (answer < 0) {
                return new int[] {place, 3};
            }
            place = matcher.end();
        }
        return null;
    }

    private int pumpOf(int pump, int what) {
        if (!hasPump(pump) || !in(what, 0, 9)) {
            return INVALID;
        }
        P p = now.pumps.get(pump);
        return new int[] {p.kind, p.shutoff, p.steep, p.service ? 1 : 0, p.speed, p.variable ? 1 : 0,
            p.ran, p.since, p.starts, p.runs() ? p.flow(p.speed, now.pressure) : 0}[what];
    }

    private int zoneOf(int zone, int what) {
        if (!hasZone(zone) || !in(what, 0, 3)) {
            return INVALID;
        }
        int[] z = now.zones.get(zone);
        return new int[] {z[0], z[1], z[1] * (z[0] * now.pressure / 400),
            (int) now.programmes.stream().filter(p -> p[0] == zone).count()}[what];
    }

    private int foresee(int minutes, int what) {
        if (!in(minutes, 1, 1440) || !in(what, 0, 4)) {
            return INVALID;
        }
        S s = now.copy();
        for (int i = 0; i < minutes; i++) {
            s.minute();
        }
        int variable = s.variable() == null ? NOT_FOUND : s.variable().number;
        return new int[] {s.pressure, s.level, s.running().size(), variable, s.supply}[what];
    }

    private int foreseeEvent(int kind) {
        if (!in(kind, 0, 7)) {
            return INVALID;
        }
        S s = now.copy();
        s.events.clear();
        for (int i = 1; i <= 1440; i++) {
            s.minute();
            if (s.events.stream().anyMatch(e -> e[0] == kind)) {
                return i;
            }
        }
        return NOT_FOUND;
    }

    private int station(int what) {
        if (!in(what, 0, 14)) {
            return INVALID;
        }
        int variable = now.variable() == null ? NOT_FOUND : now.variable().number;
        return new int[] {now.pressure, now.level, now.supply, now.demand(), variable,
            now.running().size(), now.dry ? 1 : 0, now.trips, now.dryMinutes, now.nightFlow, now.alarms,
            now.toStart, now.toStop, now.toSleep, now.total}[what];
    }

    private int eventAt(int index, int what) {
        if (index < 0 || !in(what, 0, 2)) {
            return INVALID;
        }
        int[] event = now.event((long) index);
        return event == null || event[what] < 0 ? NOT_FOUND : event[what];
    }

    private int count(int what) {
        if (in(what, 20, 38)) {
            return now.set[what - 20];
        }
        if (!in(what, 0, 10)) {
            return INVALID;
        }
        return new int[] {now.pumps.size(), now.zones.size(), now.programmes.size(),
            now.zones.stream().mapToInt(z -> z[1]).sum(), now.ready().size(), now.nights.size(),
            Math.min(12, now.events.size()), now.time, now.time % 1440, history.size(),
            text.length()}[what];
    }

    private int undo() {
        if (history.isEmpty()) {
            return NOT_POSSIBLE;
        }
        now = history.remove(history.size() - 1);
        return history.size();
    }

    private int type(int character) {
        if (!in(character, 32, 126)) {
            return INVALID;
        }
        if (text.length() == 60) {
            return LIMIT;
        }
        text += (char) character;
        return text.length();
    }

    private int clearText() {
        int before = text.length();
        text = "";
        return before;
    }
}
