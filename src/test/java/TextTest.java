/** Promises 24 to 27: type, clearText, fault and play. */
public final class TextTest {
    private static final Due due = new Due("TextTest");

    public static void main(String[] args) {
        typing();
        clearing();
        forms();
        noSuchZoneOrPump();
        notPossibleOtherwise();
        faultsBehindOthers();
        faultChangesNothing();
        playing();
        playingIsOneChange();
        playingWithAFault();
        due.end();
    }

    private static void typing() {
        FieldPumps x = new FieldPumps();
        due.is(x.type(31), Stations.INVALID);
        due.is(x.type(127), Stations.INVALID);
        due.is(x.type(-1), Stations.INVALID);
        due.is(x.type(Integer.MAX_VALUE), Stations.INVALID);
        due.is(x.type(65536 + 'o'), Stations.INVALID);
        due.is(x.count(10), 0);
        due.is(x.type(32), 1);
        due.is(x.type(126), 2);
        for (int i = 3; i <= 60; i++) {
            due.is(x.type('o'), i);
        }
        due.is(x.type('o'), Stations.LIMIT);
        due.is(x.type(31), Stations.INVALID);
        due.is(x.count(10), 60);
        due.is(x.count(9), 0);
    }

    private static void clearing() {
        FieldPumps x = new FieldPumps();
        due.is(x.clearText(), 0);
        Stations.type(x, "p1;p2;");
        due.is(x.clearText(), 6);
        due.is(x.count(10), 0);
        due.is(x.fault(0), Stations.NOT_FOUND);
        due.is(x.clearText(), 0);
        due.is(x.count(9), 0);
    }

    private static void faulty(String text, int place, int reason) {
        FieldPumps x = Stations.small();
        Stations.type(x, text);
        due.is(x.fault(0), place);
        due.is(x.fault(1), reason);
        due.is(x.play(), Stations.NOT_POSSIBLE);
        due.is(x.count(7), 0);
    }

    private static void sound(String text, int orders) {
        FieldPumps x = Stations.small();
        Stations.type(x, text);
        due.is(x.fault(0), Stations.NOT_FOUND);
        due.is(x.fault(1), Stations.NOT_FOUND);
        due.is(x.play(), orders);
    }

    private static void forms() {
        FieldPumps x = new FieldPumps();
        due.is(x.fault(-1), Stations.INVALID);
        due.is(x.fault(2), Stations.INVALID);
        due.is(x.fault(0), Stations.NOT_FOUND);
        due.is(x.fault(1), Stations.NOT_FOUND);
        for (String wrong : new String[] {"o", "o0", "o;", "o0 ;", " o0;", "O0;", "o-1;", "x0;",
            "0;", ";", "p", "p1", "p;", "p0001;", "p1234;", "p1,", "s", "s;", "c;", "r", "r0;",
            "rr;", "r ;", "oo0;", "o0x;", "p1:", "p/;", "q1;", "b1;", "d1;", "n1;", "t1;", "R;"}) {
            faulty(wrong, 0, 1);
        }
        sound("", 0);
        sound("o0;", 1);
        sound("o00;", 1);
        sound("o000;", 1);
        sound("c1;", 1);
        sound("s0;", 1);
        sound("p1;", 1);
        sound("p001;p09;p100;p240;", 4);
        sound("o0;c0;c01;p5;s000;", 5);
        faulty("o0;;", 3, 1);
        faulty("o0; p1;", 3, 1);
        faulty("p5;o", 3, 1);
        faulty("p5;r", 3, 1);
        // The text is full, and its last order is not ended.
        faulty("p1;".repeat(19) + "p12", 57, 1);
        faulty("p1;".repeat(19) + ";o1", 57, 1);
        faulty("p1;".repeat(18) + "p001;p", 59, 1);
        faulty("o".repeat(60), 0, 1);
    }

    private static void noSuchZoneOrPump() {
        faulty("o2;", 0, 2);
        faulty("c2;", 0, 2);
        faulty("s2;", 0, 2);
        faulty("o999;", 0, 2);
        faulty("s999;", 0, 2);
        faulty("p5;c003;", 3, 2);
        FieldPumps x = new FieldPumps();
        Stations.type(x, "s0;");
        due.is(x.fault(1), 2);
        x.zone(5);
        due.is(x.fault(1), 2);
        x.pump(0, 400, 1000);
        due.is(x.fault(1), Stations.NOT_FOUND);
    }

    private static void notPossibleOtherwise() {
        faulty("o1;", 0, 3);
        faulty("c0;", 0, 3);
        faulty("s1;", 0, 3);
        faulty("p0;", 0, 3);
        faulty("p000;", 0, 3);
        faulty("p241;", 0, 3);
        faulty("p999;", 0, 3);
        faulty("r;", 0, 3);
        FieldPumps x = new FieldPumps();
        Stations.passLong(x, 19990);
        Stations.type(x, "p10;");
        due.is(x.fault(0), Stations.NOT_FOUND);
        Stations.type(x, "p1;");
        due.is(x.fault(0), 4);
        due.is(x.fault(1), 3);
        Stations.retype(x, "p11;");
        due.is(x.fault(0), 0);
        due.is(x.fault(1), 3);
        // A reset is possible behind a trip, once.
        x = new FieldPumps();
        x.set(14, 0);
        x.fill(0);
        Stations.type(x, "p1;r;");
        due.is(x.fault(0), 3);
        Stations.retype(x, "p2;r;");
        due.is(x.fault(0), Stations.NOT_FOUND);
        Stations.retype(x, "p2;r;r;");
        due.is(x.fault(0), 5);
        due.is(x.fault(1), 3);
    }

    private static void faultsBehindOthers() {
        // By what those ahead have done.
        faulty("o0;o0;", 3, 3);
        faulty("c1;c1;", 3, 3);
        faulty("s0;s0;", 3, 3);
        sound("o0;c0;o0;c1;o1;", 5);
        // The first order that is not possible, of whatever reason.
        faulty("o1;x", 0, 3);
        faulty("x;o9;", 0, 1);
        faulty("p5;o9;o1;", 3, 2);
        faulty("p5;p5;p5;p5;p5;p5;p5;p5;p5;p5;p5;p5;p5;p5;p5;p5;p5;p5;p5;p0;", 57, 3);
        // A programme opens the zone while minutes go by.
        FieldPumps x = Stations.small();
        x.programme(0, 5, 9);
        Stations.type(x, "p5;o0;");
        due.is(x.fault(0), 3);
        Stations.retype(x, "p4;o0;p1;c0;");
        due.is(x.fault(0), Stations.NOT_FOUND);
    }

    private static void faultChangesNothing() {
        FieldPumps x = Stations.small();
        Stations.type(x, "o0;p240;s0;p240;r;");
        String before = Stations.all(x);
        due.is(x.fault(0), 16);
        due.is(x.fault(1), 3);
        due.isTrue("fault changes nothing", before.equals(Stations.all(x)));
    }

    private static void playing() {
        FieldPumps x = Stations.small();
        FieldPumps y = Stations.small();
        Stations.type(x, "o0;p30;c1;s0;p7;");
        due.is(x.play(), 5);
        y.open(0, 1);
        y.pass(30);
        y.open(1, 0);
        due.is(y.service(0, 0), 1);
        y.pass(7);
        due.is(x.count(10), 16);
        x.clearText();
        for (int what = 0; what <= 14; what++) {
            due.is(x.station(what), y.station(what));
        }
        due.is(x.count(7), 37);
        due.is(x.zoneOf(0, 1), 1);
        due.is(x.zoneOf(1, 1), 0);
        due.is(x.pumpOf(0, 3), 0);
        due.is(x.eventAt(0, 0), 1);
        due.is(x.eventAt(0, 1), 30);
        due.is(x.eventAt(0, 2), 0);
        // A reset of a station that is dry and filled.
        x = new FieldPumps();
        x.set(14, 0);
        x.set(12, 0);
        x.fill(0);
        x.pass(5);
        due.is(x.station(7), 3);
        due.is(x.station(6), 1);
        Stations.type(x, "r;");
        due.is(x.play(), 1);
        due.is(x.station(7), 0);
        due.is(x.station(6), 0);
        due.is(x.eventAt(0, 0), 5);
    }

    private static void playingIsOneChange() {
        FieldPumps x = new FieldPumps();
        due.is(x.play(), 0);
        due.is(x.count(9), 1);
        due.is(x.undo(), 0);
        x.zone(100);
        Stations.type(x, "o0;p9;c0;p9;");
        due.is(x.play(), 4);
        due.is(x.count(9), 2);
        due.is(x.count(10), 12);
        due.is(x.play(), 4);
        due.is(x.count(7), 36);
        due.is(x.undo(), 2);
        due.is(x.count(7), 18);
        due.is(x.undo(), 1);
        due.is(x.count(7), 0);
        due.is(x.count(10), 12);
    }

    private static void playingWithAFault() {
        FieldPumps x = Stations.small();
        Stations.type(x, "p9;o0;o1;");
        String before = Stations.all(x);
        due.is(x.play(), Stations.NOT_POSSIBLE);
        due.isTrue("nothing is done", before.equals(Stations.all(x)));
    }
}
