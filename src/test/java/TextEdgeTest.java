/** Edges of the section "Texts": the form of an order, its place, its reason, and what is done by it. */
public final class TextEdgeTest {
    private static final Due due = new Due("TextEdgeTest");
    private static final int FORM = 1;
    private static final int NONE_SUCH = 2;
    private static final int OTHERWISE = 3;

    public static void main(String[] args) {
        oneToThreeDigits();
        signsBesideTheDigits();
        letters();
        endedBySemicolon();
        places();
        numbersOfZonesAndPumps();
        minutesOfAnOrder();
        openAndClosedAlready();
        outOfServiceAlready();
        resetsBehindTrips();
        theFirstFault();
        formAheadOfTheRest();
        emptyText();
        fullText();
        textsStayAndAreNotRestored();
        playedAsOneChange();
        refusedChangesNothing();
        due.end();
    }

    private static FieldPumps typed(String text) {
        FieldPumps x = Stations.small();
        Stations.type(x, text);
        due.is(x.count(10), text.length());
        return x;
    }

    private static void faulty(String text, int place, int reason) {
        Made made = new Made(() -> typed(text));
        due.is(made.anew().fault(0), place);
        due.is(made.anew().fault(1), reason);
        made.refuses(due, FieldPumps::play, Stations.NOT_POSSIBLE);
        made.refuses(due, x -> x.fault(2), Stations.INVALID);
    }

    private static void sound(String text, int orders) {
        Made made = new Made(() -> typed(text));
        made.refuses(due, x -> x.fault(0), Stations.NOT_FOUND);
        made.refuses(due, x -> x.fault(1), Stations.NOT_FOUND);
        made.refuses(due, x -> x.fault(2), Stations.INVALID);
        made.refuses(due, x -> x.fault(-1), Stations.INVALID);
        FieldPumps x = made.anew();
        due.is(x.play(), orders);
        due.is(x.count(10), text.length());
    }

    /** "all numbers of 1 to 3 digits, 0 ahead allowed" */
    private static void oneToThreeDigits() {
        for (String letter : new String[] {"o", "s"}) {
            faulty(letter + ";", 0, FORM);
            sound(letter + "0;", 1);
            sound(letter + "00;", 1);
            sound(letter + "000;", 1);
            faulty(letter + "0000;", 0, FORM);
        }
        faulty("c;", 0, FORM);
        sound("c1;", 1);
        sound("c01;", 1);
        sound("c001;", 1);
        faulty("c0001;", 0, FORM);
        faulty("p;", 0, FORM);
        sound("p1;", 1);
        sound("p01;", 1);
        sound("p001;", 1);
        faulty("p0001;", 0, FORM);
        faulty("p1000;", 0, FORM);
        // A reset has no number.
        faulty("r;", 0, OTHERWISE);
        for (String number : new String[] {"0", "1", "00", "000"}) {
            faulty("r" + number + ";", 0, FORM);
        }
    }

    private static void signsBesideTheDigits() {
        // The characters just below "0" and just above "9", and of other kinds.
        for (String sign : new String[] {"/", ":", "-", "+", ".", " ", "a", "~"}) {
            faulty("p" + sign + ";", 0, FORM);
            faulty("p" + sign + "1;", 0, FORM);
            faulty("p1" + sign + ";", 0, FORM);
        }
        for (char digit = '1'; digit <= '9'; digit++) {
            FieldPumps x = typed("p" + digit + ";");
            due.is(x.play(), 1);
            due.is(x.count(7), digit - '0');
        }
        FieldPumps x = typed("p123;p45;p6;p70;");
        due.is(x.play(), 4);
        due.is(x.count(7), 123 + 45 + 6 + 70);
    }

    /** Five letters, small ones, and no other character. */
    private static void letters() {
        for (int character = 32; character <= 126; character++) {
            boolean numbered = "ocsp".indexOf(character) >= 0;
            FieldPumps x = typed((char) character + "1;");
            due.is(x.fault(1), !numbered ? FORM : character == 'o' || character == 's' ? OTHERWISE
                : Stations.NOT_FOUND);
            x = typed((char) character + ";");
            due.is(x.fault(1), character == 'r' ? OTHERWISE : FORM);
            due.is(x.fault(0), 0);
            x = typed("r" + (char) character);
            due.is(x.fault(1), character == ';' ? OTHERWISE : FORM);
        }
    }

    /** "orders, each followed by ";"", "if it is not of this form, its ";" included" */
    private static void endedBySemicolon() {
        for (String order : new String[] {"o0", "c1", "s0", "p1", "r", "p240", "o000"}) {
            faulty(order, 0, FORM);
            faulty(order + " ;", 0, FORM);
            faulty(order + ",", 0, FORM);
            faulty("p1;" + order, 3, FORM);
        }
        faulty(";", 0, FORM);
        faulty("p1;;", 3, FORM);
        faulty(";p1;", 0, FORM);
        faulty(" p1;", 0, FORM);
        faulty("p1; ", 3, FORM);
        faulty("p1; p1;", 3, FORM);
        faulty("o", 0, FORM);
        faulty(" ", 0, FORM);
        // One that is not of the form is ended by no ";" of another one.
        faulty("p1o0;", 0, FORM);
        faulty("o0c1;p1;", 0, FORM);
    }

    /** "the position, from 0, of the first character of the first order that is not possible" */
    private static void places() {
        faulty("p1;p12;p123;x", 12, FORM);
        faulty("p1;p12;p123;o1;", 12, OTHERWISE);
        faulty("p001;o002;", 5, NONE_SUCH);
        faulty("o0;o0;", 3, OTHERWISE);
        faulty("o0;o1;o2;", 3, OTHERWISE);
        faulty("o0;o2;o1;", 3, NONE_SUCH);
    }

    /** "2 if there is no such zone or pump" */
    private static void numbersOfZonesAndPumps() {
        String[] letters = {"o", "c", "s"};
        for (int i = 0; i < letters.length; i++) {
            faulty(letters[i] + (i == 1 ? "0;" : "1;"), 0, OTHERWISE);
            faulty(letters[i] + "2;", 0, NONE_SUCH);
            faulty(letters[i] + "002;", 0, NONE_SUCH);
            faulty(letters[i] + "6;", 0, NONE_SUCH);
            faulty(letters[i] + "8;", 0, NONE_SUCH);
            faulty(letters[i] + "999;", 0, NONE_SUCH);
        }
        // None of any number.
        for (String order : new String[] {"o0;", "c0;", "s0;", "o999;", "s000;"}) {
            FieldPumps x = new FieldPumps();
            Stations.type(x, order);
            due.is(x.fault(0), 0);
            due.is(x.fault(1), NONE_SUCH);
        }
        // The last ones that may be, and those beyond them.
        FieldPumps x = Stations.full();
        String[][] orders = {{"c7;", "3"}, {"o7;", "0"}, {"o8;", "2"}, {"c8;", "2"}, {"s5;", "0"},
            {"s6;", "2"}, {"s007;", "2"}};
        for (String[] order : orders) {
            Stations.retype(x, order[0]);
            due.is(x.fault(1), order[1].equals("0") ? Stations.NOT_FOUND : order[1].charAt(0) - '0');
        }
    }

    /** "3 if it is not possible otherwise (by what .. pass .. tell)": 1 to 240, up to the time 20000 */
    private static void minutesOfAnOrder() {
        faulty("p0;", 0, OTHERWISE);
        faulty("p00;", 0, OTHERWISE);
        faulty("p000;", 0, OTHERWISE);
        sound("p1;", 1);
        sound("p240;", 1);
        faulty("p241;", 0, OTHERWISE);
        faulty("p999;", 0, OTHERWISE);
        sound("p240;p240;p240;", 3);
        FieldPumps x = new FieldPumps();
        Stations.passLong(x, 19998);
        Stations.type(x, "p1;p1;");
        due.is(x.fault(0), Stations.NOT_FOUND);
        Stations.retype(x, "p2;");
        due.is(x.fault(0), Stations.NOT_FOUND);
        Stations.retype(x, "p3;");
        due.is(x.fault(0), 0);
        due.is(x.fault(1), OTHERWISE);
        Stations.retype(x, "p1;p2;");
        due.is(x.fault(0), 3);
        due.is(x.fault(1), OTHERWISE);
        Stations.retype(x, "p1;p1;p1;");
        due.is(x.fault(0), 6);
        due.is(x.play(), Stations.NOT_POSSIBLE);
        due.is(x.count(7), 19998);
    }

    private static void openAndClosedAlready() {
        sound("o0;", 1);
        faulty("o1;", 0, OTHERWISE);
        sound("c1;", 1);
        faulty("c0;", 0, OTHERWISE);
        sound("c1;o1;", 2);
        faulty("c1;c1;", 3, OTHERWISE);
        sound("o0;c0;o0;", 3);
        faulty("o0;c0;c0;", 6, OTHERWISE);
    }

    private static void outOfServiceAlready() {
        sound("s0;", 1);
        faulty("s1;", 0, OTHERWISE);
        faulty("s0;s0;", 3, OTHERWISE);
        // One that runs is stopped at the time of its order.
        FieldPumps x = typed("p3;s0;p4;");
        due.is(x.play(), 3);
        due.is(x.pumpOf(0, 3), 0);
        due.is(x.pumpOf(0, 6), 2);
        due.is(x.eventAt(0, 0), 1);
        due.is(x.eventAt(0, 1), 3);
        due.is(x.count(7), 7);
    }

    /** "r" by what reset tells: not possible without a trip since the last one */
    private static void resetsBehindTrips() {
        faulty("r;", 0, OTHERWISE);
        FieldPumps x = new FieldPumps();
        x.set(14, 0);
        x.fill(0);
        String[][] texts = {{"p1;r;", "3"}, {"p2;r;r;", "5"}, {"p2;r;p240;r;", "10"}, {"r;p2;", "0"}};
        for (String[] text : texts) {
            Stations.retype(x, text[0]);
            due.is(x.fault(0), Integer.parseInt(text[1]));
            due.is(x.fault(1), OTHERWISE);
            due.is(x.play(), Stations.NOT_POSSIBLE);
        }
        Stations.retype(x, "p2;r;");
        due.is(x.play(), 2);
        due.is(x.station(7), 0);
        due.is(x.station(6), 1);
        due.is(x.count(7), 2);
    }

    /** "the first order that is not possible", "when those ahead of it are done" */
    private static void theFirstFault() {
        faulty("o1;o9;x", 0, OTHERWISE);
        faulty("o9;o1;x", 0, NONE_SUCH);
        faulty("x;o9;o1;", 0, FORM);
        faulty("p1;o9;x", 3, NONE_SUCH);
        // A programme opens the zone in the minutes ahead of it.
        FieldPumps x = Stations.small();
        x.programme(0, 5, 9);
        String[][] texts = {{"p4;o0;", "0"}, {"p5;o0;", "3"}, {"p8;o0;", "3"}, {"p9;o0;", "0"},
            {"p5;c0;", "0"}, {"p4;c0;", "3"}, {"p8;c0;", "0"}, {"p9;c0;", "3"}};
        for (String[] text : texts) {
            Stations.retype(x, text[0]);
            due.is(x.fault(0), text[1].equals("0") ? Stations.NOT_FOUND : 3);
            due.is(x.fault(1), text[1].equals("0") ? Stations.NOT_FOUND : OTHERWISE);
        }
    }

    /** Of one order: its form, then its zone or pump, then the rest. */
    private static void formAheadOfTheRest() {
        faulty("o9", 0, FORM);
        faulty("o1", 0, FORM);
        faulty("o0009;", 0, FORM);
        faulty("p241", 0, FORM);
        faulty("p0000;", 0, FORM);
        faulty("s9 ;", 0, FORM);
        faulty("r9;", 0, FORM);
    }

    /** "NOT_FOUND if the text has no fault (also if it is empty)", "one change, also if there are none" */
    private static void emptyText() {
        sound("", 0);
        Made empty = new Made(Stations::small);
        empty.changes(due, FieldPumps::play, 0);
        Made fresh = new Made(FieldPumps::new);
        fresh.changes(due, FieldPumps::play, 0);
        fresh.refuses(due, x -> x.fault(0), Stations.NOT_FOUND);
        FieldPumps x = typed("o9;");
        due.is(x.fault(0), 0);
        due.is(x.clearText(), 3);
        due.is(x.fault(0), Stations.NOT_FOUND);
        due.is(x.clearText(), 0);
        due.is(x.play(), 0);
    }

    /** Of 60 characters the last one may be a ";", or be missing. */
    private static void fullText() {
        sound("p1;".repeat(20), 20);
        sound("p001;".repeat(12), 12);
        sound("o0;c0;".repeat(10), 20);
        faulty("p1;".repeat(19) + "p01", 57, FORM);
        faulty("p1;".repeat(19) + "p1", 57, FORM);
        faulty("p1;".repeat(19) + "r;", 57, OTHERWISE);
        faulty("p1;".repeat(19) + "o2;", 57, NONE_SUCH);
        faulty("p001;".repeat(11) + "p1;r;", 58, OTHERWISE);
        faulty("p001;".repeat(11) + "p01;p", 59, FORM);
        faulty("p001;".repeat(11) + "p01;;", 59, FORM);
        // The sixty-first is refused, so that the order stays without its end.
        FieldPumps x = typed("p1;".repeat(19) + "p01");
        due.is(x.type(';'), Stations.LIMIT);
        due.is(x.fault(0), 57);
        due.is(x.clearText(), 60);
        due.is(x.type('p'), 1);
        due.is(x.type('1'), 2);
        due.is(x.fault(1), FORM);
        due.is(x.type(';'), 3);
        due.is(x.fault(1), Stations.NOT_FOUND);
    }

    /** "each change records everything before it but the text", "all orders of the text, which stays" */
    private static void textsStayAndAreNotRestored() {
        FieldPumps x = Stations.small();
        Stations.type(x, "p1;");
        due.is(x.play(), 1);
        due.is(x.play(), 1);
        due.is(x.count(7), 2);
        Stations.type(x, "p2;");
        due.is(x.undo(), 3);
        due.is(x.count(7), 1);
        due.is(x.count(10), 6);
        due.is(x.play(), 2);
        due.is(x.count(7), 4);
        x.clearText();
        due.is(x.undo(), 3);
        due.is(x.count(10), 0);
        due.is(x.count(7), 1);
        due.is(x.fault(0), Stations.NOT_FOUND);
    }

    private static void playedAsOneChange() {
        String[] texts = {"", "p1;", "o0;p240;c0;", "c1;o1;s0;p9;", "o0;c0;".repeat(10), "p1;".repeat(20)};
        int[] orders = {0, 1, 3, 4, 20, 20};
        for (int i = 0; i < texts.length; i++) {
            String text = texts[i];
            // One state is left to be recorded: it is not the fifth one.
            Made made = new Made(() -> {
                FieldPumps x = typed(text);
                due.is(x.undo(), 3);
                return x;
            });
            if (text.indexOf('s') < 0) {
                made.changes(due, FieldPumps::play, orders[i]);
            }
            FieldPumps x = made.anew();
            due.is(x.play(), orders[i]);
            due.is(x.count(9), 4);
            due.is(x.undo(), 3);
            due.is(x.count(7), 0);
        }
    }

    /** The last order alone is not possible: those ahead of it are not done either. */
    private static void refusedChangesNothing() {
        faulty("o0;c1;s0;p240;p0;", 14, OTHERWISE);
        faulty("o0;c1;s0;p240;o8;", 14, NONE_SUCH);
        faulty("o0;c1;s0;p240;p1", 14, FORM);
        FieldPumps x = typed("o0;c1;s0;p240;p0;");
        due.is(x.play(), Stations.NOT_POSSIBLE);
        due.is(x.zoneOf(0, 1), 0);
        due.is(x.zoneOf(1, 1), 1);
        due.is(x.pumpOf(0, 3), 1);
        due.is(x.count(7), 0);
        due.is(x.count(9), 4);
        due.is(x.count(10), 17);
    }
}
