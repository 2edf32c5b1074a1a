/** An irrigation pump station, as ../shared/DOC.md tells it. */
public final class FieldPumps {
    public static final int INVALID_ARGUMENT = -1000001;
    public static final int NOT_POSSIBLE = -1000002;
    public static final int LIMIT_REACHED = -1000003;
    public static final int NOT_FOUND = -1000004;

    private static final int DAY = 1440;
    private static final int LATEST_TIME = 20000;
    private static final int LONGEST_PASS = 240;
    private static final int LONGEST_FORESIGHT = 1440;
    private static final int FULL_TANK = 20000;
    private static final int HIGHEST_PRESSURE = 2000;
    private static final int MOST_LEAK = 1000;
    private static final int MOST_TRIPS = 3;
    private static final int MOST_STATES = 4;
    private static final int NONE = -1;

    private static final int SETPOINT = 0;
    private static final int BAND = 1;
    private static final int GAIN = 2;
    private static final int RAMP = 3;
    private static final int LEAST_SPEED = 4;
    private static final int MINUTES_TO_START = 5;
    private static final int MINUTES_TO_STOP = 6;
    private static final int SLEEP_FLOW = 7;
    private static final int MINUTES_TO_SLEEP = 8;
    private static final int WAKE_BAND = 9;
    private static final int CAPACITY = 10;
    private static final int LEAST_LEVEL = 11;
    private static final int LEVEL_TO_GO_ON = 12;
    private static final int MINUTES_TO_RUN_DRY = 13;
    private static final int REFILL = 14;
    private static final int NIGHT_BEGIN = 15;
    private static final int NIGHT_MINUTES = 16;
    private static final int LEAK_LIMIT = 17;
    private static final int ROTATION_MINUTES = 18;
    private static final int SETTINGS = 19;
    private static final int COUNTED_SETTINGS = 20;
    private static final int[] LEAST_SETTINGS = {
        100, 1, 0, 1, 300, 1, 1, 0, 1, 1, 1, 0, 0, 1, 0, 0, 1, 0, 0};
    private static final int[] MOST_SETTINGS = {
        900, 100, 100, 500, 900, 60, 60, 1000, 60, 300, 200, 10000, 10000, 60, 1000, 1439, 600,
        100000, 1440};
    private static final int[] FIRST_SETTINGS = {
        400, 20, 20, 100, 500, 3, 5, 60, 4, 60, 20, 500, 2000, 2, 300, 60, 180, 3000, 0};

    private static final int SOUND = 0;
    private static final int WRONG_FORM = 1;
    private static final int NO_SUCH_THING = 2;
    private static final int OTHERWISE_NOT_POSSIBLE = 3;

    private final Station now = new Station();
    /** Foretells and tries orders, made once so that no call makes objects. */
    private final Station trial = new Station();
    private final Station[] history = new Station[MOST_STATES];
    private int states;
    private final Orders orders = new Orders();

    public FieldPumps() {
        for (int i = 0; i < MOST_STATES; i++) {
            history[i] = new Station();
        }
    }

    // ---- settings, pumps

    public int set(int what, int value) {
        if (!within(what, 0, SETTINGS - 1)
                || !within(value, LEAST_SETTINGS[what], MOST_SETTINGS[what])) {
            return INVALID_ARGUMENT;
        }
        remember();
        int before = now.settings[what];
        now.settings[what] = value;
        return before;
    }

    public int pump(int kind, int shutoff, int steep) {
        if (!within(kind, Pumps.FIXED, Pumps.JOCKEY) || !within(shutoff, 100, 2000)
                || !within(steep, 1, 1000)) {
            return INVALID_ARGUMENT;
        }
        if (now.pumps.size >= Pumps.MOST) {
            return LIMIT_REACHED;
        }
        remember();
        return now.pumps.add(kind, shutoff, steep);
    }

    public int service(int pump, int is) {
        if (!now.pumps.has(pump) || !within(is, 0, 1)) {
            return INVALID_ARGUMENT;
        }
        boolean inService = is == 1;
        if (now.pumps.inService[pump] == inService) {
            return NOT_POSSIBLE;
        }
        remember();
        return now.changeService(pump, inService) ? 1 : 0;
    }

    public int pumpOf(int pump, int what) {
        Pumps pumps = now.pumps;
        if (!pumps.has(pump)) {
            return INVALID_ARGUMENT;
        }
        switch (what) {
            case 0: return pumps.kinds[pump];
            case 1: return pumps.shutoffs[pump];
            case 2: return pumps.steeps[pump];
            case 3: return pumps.inService[pump] ? 1 : 0;
            case 4: return pumps.speeds[pump];
            case 5: return pumps.variable == pump ? 1 : 0;
            case 6: return pumps.minutes[pump];
            case 7: return pumps.minutesSinceStart[pump];
            case 8: return pumps.starts[pump];
            case 9: return pumps.flowOf(pump, pumps.speeds[pump], now.pressure);
            default: return INVALID_ARGUMENT;
        }
    }

    public int curve(int pump, int speed, int pressure) {
        if (!now.pumps.has(pump) || !within(speed, 300, Pumps.FULL_SPEED)
                || !within(pressure, 0, HIGHEST_PRESSURE)) {
            return INVALID_ARGUMENT;
        }
        return now.pumps.flowOf(pump, speed, pressure);
    }

    public int readyAt(int index) {
        if (index < 0) {
            return INVALID_ARGUMENT;
        }
        int pump = now.pumps.readyInOrder(index);
        return pump == NONE ? NOT_FOUND : pump;
    }

    public int balance() {
        return now.pumps.size == 0 ? NOT_FOUND : now.pumps.differenceOfMinutes();
    }

    // ---- water

    public int zone(int demand) {
        if (!within(demand, 1, 1000)) {
            return INVALID_ARGUMENT;
        }
        if (now.zones.size >= Zones.MOST) {
            return LIMIT_REACHED;
        }
        remember();
        return now.zones.add(demand);
    }

    public int open(int zone, int is) {
        if (!now.zones.has(zone) || !within(is, 0, 1)) {
            return INVALID_ARGUMENT;
        }
        boolean isOpen = is == 1;
        if (now.zones.isOpen[zone] == isOpen) {
            return NOT_POSSIBLE;
        }
        remember();
        now.zones.isOpen[zone] = isOpen;
        return now.zones.openOnes();
    }

    public int leak(int leak) {
        if (!within(leak, 0, MOST_LEAK)) {
            return INVALID_ARGUMENT;
        }
        remember();
        int before = now.leak;
        now.leak = leak;
        return before;
    }

    public int programme(int zone, int from, int to) {
        if (!now.zones.has(zone) || !within(from, 0, DAY - 1) || !within(to, 0, DAY - 1)
                || from == to) {
            return INVALID_ARGUMENT;
        }
        if (now.zones.programmes >= Zones.MOST_PROGRAMMES) {
            return LIMIT_REACHED;
        }
        remember();
        return now.zones.addProgramme(zone, from, to);
    }

    public int zoneOf(int zone, int what) {
        Zones zones = now.zones;
        if (!zones.has(zone)) {
            return INVALID_ARGUMENT;
        }
        switch (what) {
            case 0: return zones.demands[zone];
            case 1: return zones.isOpen[zone] ? 1 : 0;
            case 2: return zones.takenBy(zone, now.pressure);
            case 3: return zones.programmesOf(zone);
            default: return INVALID_ARGUMENT;
        }
    }

    public int fill(int level) {
        if (!within(level, 0, FULL_TANK)) {
            return INVALID_ARGUMENT;
        }
        remember();
        int before = now.level;
        now.level = level;
        return before;
    }

    public int reset() {
        if (now.trips == 0) {
            return NOT_POSSIBLE;
        }
        remember();
        int before = now.trips;
        now.forgetTrips();
        return before;
    }

    // ---- time

    public int pass(int minutes) {
        if (!within(minutes, 1, LONGEST_PASS)) {
            return INVALID_ARGUMENT;
        }
        if (now.time + minutes > LATEST_TIME) {
            return LIMIT_REACHED;
        }
        remember();
        for (int i = 0; i < minutes; i++) {
            now.runMinute();
        }
        return now.time;
    }

    public int foresee(int minutes, int what) {
        if (!within(minutes, 1, LONGEST_FORESIGHT) || !within(what, 0, 4)) {
            return INVALID_ARGUMENT;
        }
        trial.copyFrom(now);
        for (int i = 0; i < minutes; i++) {
            trial.runMinute();
        }
        switch (what) {
            case 0: return trial.pressure;
            case 1: return trial.level;
            case 2: return trial.pumps.running();
            case 3: return trial.pumps.variable == NONE ? NOT_FOUND : trial.pumps.variable;
            default: return trial.supply;
        }
    }

    public int foreseeEvent(int kind) {
        if (!within(kind, 0, Events.KINDS - 1)) {
            return INVALID_ARGUMENT;
        }
        trial.copyFrom(now);
        for (int i = 1; i <= LONGEST_FORESIGHT; i++) {
            trial.runMinute();
            if (trial.events.latestTimes[kind] == trial.time) {
                return i;
            }
        }
        return NOT_FOUND;
    }

    public int station(int what) {
        switch (what) {
            case 0: return now.pressure;
            case 1: return now.level;
            case 2: return now.supply;
            case 3: return now.demand();
            case 4: return now.pumps.variable == NONE ? NOT_FOUND : now.pumps.variable;
            case 5: return now.pumps.running();
            case 6: return now.dry ? 1 : 0;
            case 7: return now.trips;
            case 8: return now.dryMinutes;
            case 9: return now.nights.flow;
            case 10: return now.nights.alarms;
            case 11: return now.minutesToStart;
            case 12: return now.minutesToStop;
            case 13: return now.minutesToSleep;
            case 14: return now.allSupplied;
            default: return INVALID_ARGUMENT;
        }
    }

    public int nightAt(int index) {
        if (index < 0) {
            return INVALID_ARGUMENT;
        }
        return now.nights.has(index) ? now.nights.noted[index] : NOT_FOUND;
    }

    public int eventAt(int index, int what) {
        if (index < 0 || !within(what, 0, 2)) {
            return INVALID_ARGUMENT;
        }
        Events events = now.events;
        int row = events.rowOf(index);
        if (row == NONE) {
            return NOT_FOUND;
        }
        if (what == 0) {
            return events.kinds[row];
        }
        if (what == 1) {
            return events.times[row];
        }
        return events.pumps[row] == NONE ? NOT_FOUND : events.pumps[row];
    }

    public int count(int what) {
        if (within(what, COUNTED_SETTINGS, COUNTED_SETTINGS + SETTINGS - 1)) {
            return now.settings[what - COUNTED_SETTINGS];
        }
        switch (what) {
            case 0: return now.pumps.size;
            case 1: return now.zones.size;
            case 2: return now.zones.programmes;
            case 3: return now.zones.openOnes();
            case 4: return now.pumps.readyOnes();
            case 5: return now.nights.size;
            case 6: return now.events.kept();
            case 7: return now.time;
            case 8: return now.time % DAY;
            case 9: return states;
            case 10: return orders.length;
            default: return INVALID_ARGUMENT;
        }
    }

    public int undo() {
        if (states <= 0 || states > MOST_STATES) {
            return NOT_POSSIBLE;
        }
        states--;
        now.copyFrom(history[states]);
        return states;
    }

    // ---- texts

    public int type(int character) {
        if (!within(character, 32, 126)) {
            return INVALID_ARGUMENT;
        }
        if (orders.length >= Orders.MOST_CHARACTERS) {
            return LIMIT_REACHED;
        }
        orders.append((char) character);
        return orders.length;
    }

    public int clearText() {
        int before = orders.length;
        orders.length = 0;
        return before;
    }

    public int fault(int what) {
        if (!within(what, 0, 1)) {
            return INVALID_ARGUMENT;
        }
        int reason = tryOrders();
        if (reason == SOUND) {
            return NOT_FOUND;
        }
        return what == 0 ? orders.place : reason;
    }

    public int play() {
        if (tryOrders() != SOUND) {
            return NOT_POSSIBLE;
        }
        remember();
        now.copyFrom(trial);
        return orders.done;
    }

    /** Does the orders on the trial, up to the first that is not possible; tells its reason. */
    private int tryOrders() {
        trial.copyFrom(now);
        orders.begin();
        for (int i = 0; i < Orders.MOST_CHARACTERS && !orders.atEnd(); i++) {
            int reason = orders.read() ? tryOrder(orders.letter, orders.number) : WRONG_FORM;
            if (reason != SOUND) {
                return reason;
            }
            orders.next();
        }
        return SOUND;
    }

    private int tryOrder(char letter, int number) {
        if (letter == 's') {
            return tryStoppingService(number);
        }
        if (letter == 'r') {
            return tryReset();
        }
        if (letter != 'p') {
            return tryZone(number, letter == 'o');
        }
        if (!within(number, 1, LONGEST_PASS) || trial.time + number > LATEST_TIME) {
            return OTHERWISE_NOT_POSSIBLE;
        }
        for (int i = 0; i < number; i++) {
            trial.runMinute();
        }
        return SOUND;
    }

    private int tryStoppingService(int pump) {
        if (!trial.pumps.has(pump)) {
            return NO_SUCH_THING;
        }
        if (!trial.pumps.inService[pump]) {
            return OTHERWISE_NOT_POSSIBLE;
        }
        trial.changeService(pump, false);
        return SOUND;
    }

    private int tryReset() {
        if (trial.trips == 0) {
            return OTHERWISE_NOT_POSSIBLE;
        }
        trial.forgetTrips();
        return SOUND;
    }

    private int tryZone(int zone, boolean isOpen) {
        if (!trial.zones.has(zone)) {
            return NO_SUCH_THING;
        }
        if (trial.zones.isOpen[zone] == isOpen) {
            return OTHERWISE_NOT_POSSIBLE;
        }
        trial.zones.isOpen[zone] = isOpen;
        return SOUND;
    }

    /** Records the present state; the rows of the oldest one serve again if there are too many. */
    private void remember() {
        if (states >= MOST_STATES) {
            Station oldest = history[0];
            for (int i = 1; i < MOST_STATES; i++) {
                history[i - 1] = history[i];
            }
            history[MOST_STATES - 1] = oldest;
            states = MOST_STATES - 1;
        }
        Station latest = history[states];
        if (latest != null) {
            latest.copyFrom(now);
        }
        states++;
    }

    private static boolean within(int value, int least, int most) {
        return value >= least && value <= most;
    }

    private static int hold(int value, int least, int most) {
        return Math.max(least, Math.min(most, value));
    }

    /** All that a change records, and what a minute does to it. */
    private static final class Station {
        final int[] settings = FIRST_SETTINGS.clone();
        final Pumps pumps = new Pumps();
        final Zones zones = new Zones();
        final Nights nights = new Nights();
        final Events events = new Events();
        int time;
        int pressure;
        int level = 10000;
        int leak;
        int supply;
        int allSupplied;
        boolean dry;
        int dryMinutes;
        int trips;
        int minutesToStart;
        int minutesToStop;
        int minutesToSleep;

        void copyFrom(Station other) {
            if (other == null) {
                return;
            }
            System.arraycopy(other.settings, 0, settings, 0, SETTINGS);
            pumps.copyFrom(other.pumps);
            zones.copyFrom(other.zones);
            nights.copyFrom(other.nights);
            events.copyFrom(other.events);
            time = other.time;
            pressure = other.pressure;
            level = other.level;
            leak = other.leak;
            supply = other.supply;
            allSupplied = other.allSupplied;
            dry = other.dry;
            dryMinutes = other.dryMinutes;
            trips = other.trips;
            minutesToStart = other.minutesToStart;
            minutesToStop = other.minutesToStop;
            minutesToSleep = other.minutesToSleep;
        }

        int demand() {
            return zones.taken(pressure) + leak * pressure / 1000;
        }

        void runMinute() {
            time++;
            zones.keepProgrammes(time % DAY);
            moveWater();
            watchNight();
            watchLevel();
            if (dry) {
                beginMinutesAnew();
                return;
            }
            adjustSpeed();
            wake();
            countMinutes();
            cascade();
            rotate();
        }

        private void moveWater() {
            // Both by the pressure as it was, so the demand is told before the pressure changes.
            int demand = demand();
            supply = Math.min(level, pumps.flow(pressure));
            allSupplied += supply;
            level = Math.min(FULL_TANK, level - supply + settings[REFILL]);
            pumps.countMinute();
            int capacity = settings[CAPACITY];
            if (capacity > 0) {
                pressure = hold(pressure + (supply - demand) / capacity, 0, HIGHEST_PRESSURE);
            }
        }

        private void watchNight() {
            int minuteOfNight = (time % DAY - settings[NIGHT_BEGIN] + DAY) % DAY;
            if (minuteOfNight >= settings[NIGHT_MINUTES]) {
                return;
            }
            nights.flow += supply;
            if (minuteOfNight < settings[NIGHT_MINUTES] - 1) {
                return;
            }
            if (nights.tellLeak(settings[LEAK_LIMIT])) {
                nights.alarms++;
                events.add(Events.LEAK_ALARM, time, NONE);
            }
            nights.note();
        }

        private void watchLevel() {
            dryMinutes = level < settings[LEAST_LEVEL] ? dryMinutes + 1 : 0;
            if (!dry && dryMinutes >= settings[MINUTES_TO_RUN_DRY]) {
                for (int pump = 0; pump < pumps.size; pump++) {
                    stop(pump);
                }
                dry = true;
                trips++;
                events.add(Events.TRIP, time, NONE);
            }
            if (trips < MOST_TRIPS) {
                goOnIfFilled();
            }
        }

        private void goOnIfFilled() {
            if (dry && level >= settings[LEVEL_TO_GO_ON]) {
                dry = false;
                events.add(Events.GOES_ON, time, NONE);
            }
        }

        void forgetTrips() {
            trips = 0;
            goOnIfFilled();
        }

        /** Tells whether the pump was stopped by it. */
        boolean changeService(int pump, boolean inService) {
            pumps.inService[pump] = inService;
            return !inService && stop(pump);
        }

        private void start(int pump, int speed) {
            pumps.start(pump, speed);
            events.add(Events.STARTED, time, pump);
        }

        /** Tells whether the pump ran. */
        private boolean stop(int pump) {
            if (!pumps.runs(pump)) {
                return false;
            }
            pumps.stop(pump);
            events.add(Events.STOPPED, time, pump);
            return true;
        }

        private void adjustSpeed() {
            if (!pumps.hasVariable()) {
                return;
            }
            int wanted = (settings[SETPOINT] - pressure) * settings[GAIN] / 100;
            int change = hold(wanted, -settings[RAMP], settings[RAMP]);
            int speed = pumps.speeds[pumps.variable] + change;
            pumps.speeds[pumps.variable] = hold(speed, settings[LEAST_SPEED], Pumps.FULL_SPEED);
        }

        private void wake() {
            if (pumps.running() > 0 || pressure >= settings[SETPOINT] - settings[WAKE_BAND]) {
                return;
            }
            int pump = pumps.readyInOrder(0);
            if (pump != NONE) {
                start(pump, settings[LEAST_SPEED]);
                events.add(Events.WAKES, time, NONE);
            }
        }

        private void beginMinutesAnew() {
            minutesToStart = 0;
            minutesToStop = 0;
            minutesToSleep = 0;
        }

        private void countMinutes() {
            int running = pumps.running();
            boolean low = pressure < settings[SETPOINT] - settings[BAND];
            boolean high = pressure > settings[SETPOINT] + settings[BAND];
            boolean without = !pumps.hasVariable();
            boolean atFull = pumps.variableAt(Pumps.FULL_SPEED);
            boolean atLeast = pumps.variableAt(settings[LEAST_SPEED]);
            boolean toStart = running > 0 && low && (without || atFull);
            boolean toStop = running > 0 && high && (without || atLeast);
            boolean toSleep = running == 1 && atLeast && supply < settings[SLEEP_FLOW];
            minutesToStart = toStart ? minutesToStart + 1 : 0;
            minutesToStop = toStop ? minutesToStop + 1 : 0;
            minutesToSleep = toSleep ? minutesToSleep + 1 : 0;
        }

        private void cascade() {
            int next = pumps.readyInOrder(0);
            if (next != NONE && minutesToStart >= settings[MINUTES_TO_START]) {
                start(next, settings[LEAST_SPEED]);
            } else if (minutesToStop >= settings[MINUTES_TO_STOP]
                    && (pumps.running() > 1 || !pumps.hasVariable())) {
                stop(pumps.nextToStop());
            } else if (minutesToSleep >= settings[MINUTES_TO_SLEEP]) {
                stop(pumps.variable);
                events.add(Events.SLEEPS, time, NONE);
            } else {
                return;
            }
            beginMinutesAnew();
        }

        private void rotate() {
            int old = pumps.variable;
            if (settings[ROTATION_MINUTES] == 0 || !pumps.hasVariable()
                    || pumps.minutesSinceStart[old] < settings[ROTATION_MINUTES]) {
                return;
            }
            int next = pumps.nextInRotation();
            if (next == NONE) {
                return;
            }
            start(next, pumps.speeds[old]);
            events.add(Events.ROTATION, time, next);
            stop(old);
        }
    }

    /** The pumps in rows by their numbers, and which of them is the variable one. */
    private static final class Pumps {
        static final int MOST = 6;
        static final int FIXED = 0;
        static final int JOCKEY = 2;
        static final int FULL_SPEED = 1000;

        final int[] kinds = new int[MOST];
        final int[] shutoffs = new int[MOST];
        final int[] steeps = new int[MOST];
        final boolean[] inService = new boolean[MOST];
        final int[] speeds = new int[MOST];
        final int[] minutes = new int[MOST];
        final int[] minutesSinceStart = new int[MOST];
        final int[] starts = new int[MOST];
        int size;
        int variable = NONE;

        void copyFrom(Pumps other) {
            System.arraycopy(other.kinds, 0, kinds, 0, MOST);
            System.arraycopy(other.shutoffs, 0, shutoffs, 0, MOST);
            System.arraycopy(other.steeps, 0, steeps, 0, MOST);
            System.arraycopy(other.inService, 0, inService, 0, MOST);
            System.arraycopy(other.speeds, 0, speeds, 0, MOST);
            System.arraycopy(other.minutes, 0, minutes, 0, MOST);
            System.arraycopy(other.minutesSinceStart, 0, minutesSinceStart, 0, MOST);
            System.arraycopy(other.starts, 0, starts, 0, MOST);
            size = other.size;
            variable = other.variable;
        }

        int add(int kind, int shutoff, int steep) {
            if (size >= MOST) {
                return NONE;
            }
            kinds[size] = kind;
            shutoffs[size] = shutoff;
            steeps[size] = steep;
            inService[size] = true;
            size++;
            return size - 1;
        }

        boolean has(int pump) {
            return pump >= 0 && pump < size;
        }

        boolean runs(int pump) {
            return has(pump) && speeds[pump] > 0;
        }

        private boolean isReady(int pump) {
            return inService[pump] && speeds[pump] == 0;
        }

        boolean hasVariable() {
            return has(variable);
        }

        boolean variableAt(int speed) {
            return has(variable) && speeds[variable] == speed;
        }

        int running() {
            int running = 0;
            for (int pump = 0; pump < size; pump++) {
                running += speeds[pump] > 0 ? 1 : 0;
            }
            return running;
        }

        int readyOnes() {
            int ready = 0;
            for (int pump = 0; pump < size; pump++) {
                ready += isReady(pump) ? 1 : 0;
            }
            return ready;
        }

        int differenceOfMinutes() {
            int fewest = minutes[0];
            int most = minutes[0];
            for (int pump = 1; pump < size; pump++) {
                fewest = Math.min(fewest, minutes[pump]);
                most = Math.max(most, minutes[pump]);
            }
            return most - fewest;
        }

        int flowOf(int pump, int speed, int pressure) {
            int lift = shutoffs[pump] * speed * speed / 1000000;
            int steep = steeps[pump];
            if (lift <= pressure || steep <= 0) {
                return 0;
            }
            return root((lift - pressure) * 1000 / steep);
        }

        int flow(int pressure) {
            int flow = 0;
            for (int pump = 0; pump < size; pump++) {
                flow += flowOf(pump, speeds[pump], pressure);
            }
            return flow;
        }

        /** The greatest number, up to 2047, whose square is not greater. */
        private static int root(int square) {
            int root = 0;
            for (int bit = 1024; bit > 0; bit /= 2) {
                int greater = root + bit;
                if (greater * greater <= square) {
                    root = greater;
                }
            }
            return root;
        }

        void countMinute() {
            for (int pump = 0; pump < size; pump++) {
                if (speeds[pump] > 0) {
                    minutes[pump]++;
                    minutesSinceStart[pump]++;
                }
            }
        }

        /** The ready pump with so many ready ones ahead of it, or NONE. */
        int readyInOrder(int place) {
            boolean noneRuns = running() == 0;
            for (int pump = 0; pump < size; pump++) {
                if (isReady(pump) && readyAhead(pump, noneRuns) == place) {
                    return pump;
                }
            }
            return NONE;
        }

        private int readyAhead(int pump, boolean noneRuns) {
            int ahead = 0;
            for (int other = 0; other < size; other++) {
                ahead += isReady(other) && isAhead(other, pump, noneRuns) ? 1 : 0;
            }
            return ahead;
        }

        private boolean isAhead(int one, int other, boolean noneRuns) {
            boolean isJockey = kinds[one] == JOCKEY;
            if (isJockey != (kinds[other] == JOCKEY)) {
                return isJockey == noneRuns;
            }
            if (minutes[one] != minutes[other]) {
                return minutes[one] < minutes[other];
            }
            return one < other;
        }

        /** Starts it; the speed is for one that is not fixed. */
        void start(int pump, int speed) {
            if (!has(pump)) {
                return;
            }
            starts[pump]++;
            speeds[pump] = FULL_SPEED;
            if (kinds[pump] == FIXED) {
                return;
            }
            if (has(variable)) {
                speeds[variable] = FULL_SPEED;
            }
            variable = pump;
            speeds[pump] = speed;
        }

        void stop(int pump) {
            if (!has(pump)) {
                return;
            }
            speeds[pump] = 0;
            minutesSinceStart[pump] = 0;
            if (pump == variable) {
                variable = nextVariable();
            }
        }

        private int nextVariable() {
            int next = NONE;
            for (int pump = 0; pump < size; pump++) {
                if (speeds[pump] > 0 && kinds[pump] != FIXED
                        && (next == NONE || minutes[pump] < minutes[next])) {
                    next = pump;
                }
            }
            return next;
        }

        int nextToStop() {
            int next = NONE;
            for (int pump = 0; pump < size; pump++) {
                if (speeds[pump] > 0 && pump != variable
                        && (next == NONE || minutes[pump] > minutes[next])) {
                    next = pump;
                }
            }
            return next;
        }

        int nextInRotation() {
            if (!has(variable)) {
                return NONE;
            }
            int next = NONE;
            int fewest = minutes[variable];
            for (int pump = 0; pump < size; pump++) {
                if (isReady(pump) && kinds[pump] != FIXED && minutes[pump] < fewest) {
                    next = pump;
                    fewest = minutes[pump];
                }
            }
            return next;
        }
    }

    /** The zones in rows by their numbers, and the programmes that open and close them. */
    private static final class Zones {
        static final int MOST = 8;
        static final int MOST_PROGRAMMES = 8;

        final int[] demands = new int[MOST];
        final boolean[] isOpen = new boolean[MOST];
        int size;
        final int[] programmeZones = new int[MOST_PROGRAMMES];
        final int[] opening = new int[MOST_PROGRAMMES];
        final int[] closing = new int[MOST_PROGRAMMES];
        int programmes;

        void copyFrom(Zones other) {
            System.arraycopy(other.demands, 0, demands, 0, MOST);
            System.arraycopy(other.isOpen, 0, isOpen, 0, MOST);
            size = other.size;
            System.arraycopy(other.programmeZones, 0, programmeZones, 0, MOST_PROGRAMMES);
            System.arraycopy(other.opening, 0, opening, 0, MOST_PROGRAMMES);
            System.arraycopy(other.closing, 0, closing, 0, MOST_PROGRAMMES);
            programmes = other.programmes;
        }

        int add(int demand) {
            if (size >= MOST) {
                return NONE;
            }
            demands[size] = demand;
            size++;
            return size - 1;
        }

        int addProgramme(int zone, int from, int to) {
            if (programmes < MOST_PROGRAMMES) {
                programmeZones[programmes] = zone;
                opening[programmes] = from;
                closing[programmes] = to;
                programmes++;
            }
            return programmes;
        }

        boolean has(int zone) {
            return zone >= 0 && zone < size;
        }

        int openOnes() {
            int open = 0;
            for (int zone = 0; zone < size; zone++) {
                open += isOpen[zone] ? 1 : 0;
            }
            return open;
        }

        int programmesOf(int zone) {
            int its = 0;
            for (int i = 0; i < programmes; i++) {
                its += programmeZones[i] == zone ? 1 : 0;
            }
            return its;
        }

        int takenBy(int zone, int pressure) {
            return isOpen[zone] ? demands[zone] * pressure / 400 : 0;
        }

        int taken(int pressure) {
            int taken = 0;
            for (int zone = 0; zone < size; zone++) {
                taken += takenBy(zone, pressure);
            }
            return taken;
        }

        void keepProgrammes(int minuteOfDay) {
            for (int i = 0; i < programmes; i++) {
                int zone = programmeZones[i];
                if (!has(zone)) {
                    continue;
                }
                if (opening[i] == minuteOfDay) {
                    isOpen[zone] = true;
                } else if (closing[i] == minuteOfDay) {
                    isOpen[zone] = false;
                }
            }
        }
    }

    /** The flows of nights that are noted, the latest one first, and that of the present night. */
    private static final class Nights {
        static final int MOST = 7;
        static final int LEAST_TO_TELL = 3;

        final int[] noted = new int[MOST];
        int size;
        int flow;
        int alarms;

        void copyFrom(Nights other) {
            System.arraycopy(other.noted, 0, noted, 0, MOST);
            size = other.size;
            flow = other.flow;
            alarms = other.alarms;
        }

        boolean has(int index) {
            return index >= 0 && index < size;
        }

        boolean tellLeak(int limit) {
            return size >= LEAST_TO_TELL && flow > middle() + limit;
        }

        /** The lower middle one: as many of the noted ones as (size - 1) / 2 are ahead of it. */
        private int middle() {
            for (int i = 0; i < size; i++) {
                int ahead = 0;
                for (int j = 0; j < size; j++) {
                    boolean isAhead = noted[j] < noted[i] || noted[j] == noted[i] && j < i;
                    ahead += isAhead ? 1 : 0;
                }
                if (ahead == (size - 1) / 2) {
                    return noted[i];
                }
            }
            return 0;
        }

        void note() {
            for (int i = MOST - 1; i > 0; i--) {
                noted[i] = noted[i - 1];
            }
            noted[0] = flow;
            size = Math.min(MOST, size + 1);
            flow = 0;
        }
    }

    /** The latest events, each in the row of its number mod MOST. */
    private static final class Events {
        static final int MOST = 12;
        static final int KINDS = 8;
        static final int STARTED = 0;
        static final int STOPPED = 1;
        static final int SLEEPS = 2;
        static final int WAKES = 3;
        static final int TRIP = 4;
        static final int GOES_ON = 5;
        static final int LEAK_ALARM = 6;
        static final int ROTATION = 7;

        final int[] kinds = new int[MOST];
        final int[] times = new int[MOST];
        final int[] pumps = new int[MOST];
        /** Of each kind, also when the event is kept no longer; 0 if there was none. */
        final int[] latestTimes = new int[KINDS];
        int all;

        void copyFrom(Events other) {
            System.arraycopy(other.kinds, 0, kinds, 0, MOST);
            System.arraycopy(other.times, 0, times, 0, MOST);
            System.arraycopy(other.pumps, 0, pumps, 0, MOST);
            System.arraycopy(other.latestTimes, 0, latestTimes, 0, KINDS);
            all = other.all;
        }

        void add(int kind, int time, int pump) {
            if (kind < 0 || kind >= KINDS || all < 0) {
                return;
            }
            int row = all % MOST;
            kinds[row] = kind;
            times[row] = time;
            pumps[row] = pump;
            latestTimes[kind] = time;
            all++;
        }

        int kept() {
            return Math.min(MOST, all);
        }

        /** The row of an event, 0 for the latest one, or NONE if it is not kept. */
        int rowOf(int index) {
            return index >= 0 && index < kept() ? (all - 1 - index) % MOST : NONE;
        }
    }

    /** The text, and the order in it that is being read. */
    private static final class Orders {
        static final int MOST_CHARACTERS = 60;
        static final int MOST_DIGITS = 3;

        final char[] text = new char[MOST_CHARACTERS];
        int length;
        int place;
        int behind;
        int done;
        char letter;
        int number;

        void append(char character) {
            if (length < MOST_CHARACTERS) {
                text[length] = character;
                length++;
            }
        }

        void begin() {
            place = 0;
            done = 0;
        }

        boolean atEnd() {
            return place >= length;
        }

        /** Reads the order at the place, and tells whether it is of the form. */
        boolean read() {
            if (!has(place)) {
                return false;
            }
            letter = text[place];
            number = 0;
            behind = place + 1;
            int digits = 0;
            while (digits < MOST_DIGITS && has(behind) && isDigit(text[behind])) {
                number = number * 10 + text[behind] - '0';
                digits++;
                behind++;
            }
            boolean isEnded = has(behind) && text[behind] == ';';
            behind++;
            return isEnded && (digits > 0 ? isLetterOfNumber() : letter == 'r');
        }

        void next() {
            place = behind;
            done++;
        }

        private boolean has(int position) {
            return position >= 0 && position < length;
        }

        private boolean isLetterOfNumber() {
            return letter == 'o' || letter == 'c' || letter == 's' || letter == 'p';
        }

        private static boolean isDigit(char character) {
            return character >= '0' && character <= '9';
        }
    }
}
