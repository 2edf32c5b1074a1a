import java.util.Arrays;
import java.util.Random;

/**
 * All promises: runs of calls, the same each time, whose answers are compared with those of a plain
 * model. After each change all that can be asked is asked.
 */
public final class ModelTest {
    private static final Due due = new Due("ModelTest");
    private static final int RUNS = 60;
    private static final int CALLS = 512;
    private static final int[] STRANGE = {
        Integer.MIN_VALUE, -1000004, -1, 0, 1, 5, 6, 8, 9, 39, 999, 2001, 20001, Integer.MAX_VALUE};
    private static final int[] FEWEST = {
        100, 1, 0, 1, 300, 1, 1, 0, 1, 1, 1, 0, 0, 1, 0, 0, 1, 0, 0};
    private static final int[] MOST = {
        900, 100, 100, 500, 900, 60, 60, 1000, 60, 300, 200, 10000, 10000, 60, 1000, 1439, 600, 100000,
        1440};

    private final Random random;
    private final FieldPumps x = new FieldPumps();
    private final Model model = new Model();
    private final StringBuilder calls = new StringBuilder();
    private boolean alike = true;

    private ModelTest(int seed) {
        random = new Random(seed);
    }

    public static void main(String[] args) {
        int runs = args.length > 0 ? Integer.parseInt(args[0]) : RUNS;
        for (int seed = 1; seed <= runs; seed++) {
            ModelTest run = new ModelTest(seed);
            boolean alike = run.isAlike();
            due.is(alike ? 1 : 0, 1);
            if (!alike) {
                System.out.println("run " + seed + ": " + run.calls);
            }
        }
        due.end();
    }

    private boolean isAlike() {
        int pace = 1 + random.nextInt(240);
        for (int i = 0; i < 2 + random.nextInt(5); i++) {
            call("pump", pick(3), among(100, 2000), random.nextBoolean() ? among(1, 40) : among(1, 1000));
        }
        for (int i = 0; i < random.nextInt(6); i++) {
            call("zone", random.nextBoolean() ? among(1, 60) : among(1, 1000));
        }
        for (int i = 0; i < CALLS - 20 && alike; i++) {
            step(pace);
            if (i % 8 == 0) {
                askAll();
            }
        }
        return alike;
    }

    private int pick(int bound) {
        return random.nextInt(bound);
    }

    private int among(int least, int most) {
        return least + random.nextInt(most - least + 1);
    }

    private void step(int pace) {
        switch (pick(24)) {
            case 0, 1, 2, 3, 4 -> call("pass", among(1, pick(3) == 0 ? 240 : Math.max(1, pace / 4)));
            case 5 -> call("pass", among(1, 3));
            case 6 -> setSomething();
            case 7 -> call("service", pick(7), pick(2));
            case 8, 9 -> call("open", pick(6), pick(2));
            case 10 -> call("leak", among(0, 1000));
            case 11 -> call("fill", pick(3) == 0 ? among(0, 3000) : among(0, 20000));
            case 12 -> call("reset");
            case 13 -> call("undo");
            case 14 -> call("foresee", among(1, pick(2) == 0 ? 1440 : 30), pick(5));
            case 15 -> call("foreseeEvent", pick(8));
            case 16, 17, 18 -> text();
            case 19 -> call("programme", pick(6), minuteOfDay(), minuteOfDay());
            case 20 -> call(pick(3) == 0 ? "pump" : "zone", pick(4), among(90, 2010), among(0, 1001));
            case 21 -> strange();
            case 22 -> call("curve", pick(6), among(300, 1000), among(0, 2000));
            default -> setSomething();
        }
    }

    private int minuteOfDay() {
        return (x.count(8) + pick(40)) % (1440 + pick(2));
    }

    private void setSomething() {
        int what = pick(19);
        int value = among(FEWEST[what] - pick(2), MOST[what] + pick(2));
        int least = FEWEST[what];
        if (what == 15 && pick(2) == 0) {
            value = minuteOfDay();
        } else if ((what == 5 || what == 6 || what == 8 || what == 13 || what == 16 || what == 18)
                && pick(3) != 0) {
            value = among(least, 8);
        } else if ((what == 11 || what == 12 || what == 17) && pick(2) == 0) {
            value = among(least, 2500);
        } else if (what == 10 && pick(2) == 0) {
            value = among(least, 15);
        }
        call("set", what, value);
    }

    private void text() {
        if (pick(3) != 0) {
            call("clearText");
        }
        for (int i = 0; i < 1 + pick(8); i++) {
            order();
        }
        call("fault", 0);
        call("fault", 1);
        call("play");
        if (pick(3) == 0) {
            call("undo");
        }
    }

    private void order() {
        char letter = "ocsppppr".charAt(pick(8));
        String number = letter == 'r' ? "" : String.valueOf(letter == 'p' ? among(1, 60) : pick(6));
        if (pick(30) == 0) {
            number = String.valueOf(pick(1100));
        }
        if (pick(6) == 0 && !number.isEmpty()) {
            number = "0" + number;
        }
        String order = letter + number + ";";
        for (int i = 0; i < order.length(); i++) {
            call("type", pick(150) == 0 ? among(31, 127) : order.charAt(i));
        }
    }

    private void strange() {
        String[] names = {"set", "pump", "service", "pumpOf", "curve", "readyAt", "zone", "open", "leak",
            "programme", "zoneOf", "fill", "pass", "foresee", "foreseeEvent", "station", "nightAt",
            "eventAt", "count", "type", "fault"};
        call(names[pick(names.length)], STRANGE[pick(STRANGE.length)], STRANGE[pick(STRANGE.length)],
            STRANGE[pick(STRANGE.length)]);
    }

    /** Calls both; with more arguments than the call takes the first ones are meant. */
    private void call(String name, int... given) {
        int[] a = Arrays.copyOf(given, 3);
        calls.append(name).append(Arrays.toString(given)).append(' ');
        compare(name, a);
    }

    private void compare(String name, int... a) {
        int got = real(name, a);
        int want = model.call(name, a);
        if (got != want && alike) {
            alike = false;
            System.out.println(name + Arrays.toString(a) + ": answered " + got + ", due is " + want);
        }
    }

    private int real(String name, int[] a) {
        return switch (name) {
            case "set" -> x.set(a[0], a[1]);
            case "pump" -> x.pump(a[0], a[1], a[2]);
            case "service" -> x.service(a[0], a[1]);
            case "pumpOf" -> x.pumpOf(a[0], a[1]);
            case "curve" -> x.curve(a[0], a[1], a[2]);
            case "readyAt" -> x.readyAt(a[0]);
            case "balance" -> x.balance();
            case "zone" -> x.zone(a[0]);
            case "open" -> x.open(a[0], a[1]);
            case "leak" -> x.leak(a[0]);
            case "programme" -> x.programme(a[0], a[1], a[2]);
            case "zoneOf" -> x.zoneOf(a[0], a[1]);
            case "fill" -> x.fill(a[0]);
            case "reset" -> x.reset();
            case "pass" -> x.pass(a[0]);
            case "foresee" -> x.foresee(a[0], a[1]);
            case "foreseeEvent" -> x.foreseeEvent(a[0]);
            case "station" -> x.station(a[0]);
            case "nightAt" -> x.nightAt(a[0]);
            case "eventAt" -> x.eventAt(a[0], a[1]);
            case "count" -> x.count(a[0]);
            case "undo" -> x.undo();
            case "type" -> x.type(a[0]);
            case "clearText" -> x.clearText();
            case "fault" -> x.fault(a[0]);
            case "play" -> x.play();
            default -> throw new IllegalArgumentException(name);
        };
    }

    private void askAll() {
        for (int what = -1; what <= 39; what++) {
            compare("count", what, 0, 0);
        }
        for (int what = -1; what <= 15; what++) {
            compare("station", what, 0, 0);
        }
        for (int number = 0; number <= 8; number++) {
            for (int what = -1; what <= 10; what++) {
                compare("pumpOf", number, what, 0);
                compare("zoneOf", number, what, 0);
            }
        }
        for (int index = -1; index <= 12; index++) {
            compare("readyAt", index, 0, 0);
            compare("nightAt", index, 0, 0);
            for (int what = 0; what <= 2; what++) {
                compare("eventAt", index, what, 0);
            }
        }
        compare("balance", 0, 0, 0);
    }
}
