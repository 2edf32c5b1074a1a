import java.util.function.Supplier;
import java.util.function.ToIntFunction;

/**
 * A station that is made anew, by the same calls, as often as it is asked for: so that it can be told
 * what a call has changed, or that it has changed nothing, by one that is alike and was not called.
 */
final class Made {
    /** One more than a history keeps. */
    private static final int UNDONE = 5;

    private final Supplier<FieldPumps> maker;
    private final String[] told = new String[UNDONE + 1];

    Made(Supplier<FieldPumps> maker) {
        this.maker = maker;
    }

    FieldPumps anew() {
        return maker.get();
    }

    /**
     * The call answers the error, again as often as it is made, and changes nothing: what the calls
     * that only tell answer, what undo takes back, and what is done by calls behind it.
     */
    void refuses(Due due, ToIntFunction<FieldPumps> call, int error) {
        FieldPumps twice = anew();
        due.is(call.applyAsInt(twice), error);
        due.is(call.applyAsInt(twice), error);
        for (int undone = 0; undone <= UNDONE; undone++) {
            FieldPumps x = anew();
            call.applyAsInt(x);
            due.same("behind a refused call and " + undone + " undone", tell(x, undone), told(undone));
        }
    }

    /** The call is a change: one state more is in the history, or as many as may be, and undo restores it. */
    void changes(Due due, ToIntFunction<FieldPumps> call, int answer) {
        FieldPumps x = anew();
        int states = x.count(9);
        due.is(call.applyAsInt(x), answer);
        due.is(x.count(9), Math.min(4, states + 1));
        due.is(x.undo(), Math.min(3, states));
        due.same("behind an undone call", Stations.present(x), Stations.present(anew()));
        if (states < 4) {
            due.same("and in all that comes", tell(x, 0), told(0));
        }
    }

    private String told(int undone) {
        if (told[undone] == null) {
            told[undone] = tell(anew(), undone);
        }
        return told[undone];
    }

    /** All that can be known of a station: by asking first, then by calls that change it. */
    private static String tell(FieldPumps x, int undone) {
        StringBuilder all = new StringBuilder();
        for (int i = 0; i < undone; i++) {
            all.append(x.undo()).append(' ');
        }
        all.append(Stations.all(x)).append(" foretold ");
        for (int what = 0; what <= 4; what++) {
            all.append(x.foresee(100, what)).append(' ');
        }
        for (int kind = 0; kind <= 7; kind++) {
            all.append(x.foreseeEvent(kind)).append(' ');
        }
        all.append("done ").append(x.play()).append(' ').append(x.leak(1)).append(' ').append(x.pass(240));
        for (int what = 0; what <= 14; what++) {
            all.append(' ').append(x.station(what));
        }
        return all.append(' ').append(x.clearText()).toString();
    }
}
