import java.util.function.Supplier;
import java.util.function.ToIntFunction;

/** Two objects that were made by the same calls, to see whether one more call makes a difference anywhere. */
final class Twins {
    private static final int LOOKS = 7;

    private Twins() {
    }

    /** A call is refused with an error, and changes nothing, not even what only later calls show. */
    static void refuse(String call, Supplier<LineDoubler> maker, ToIntFunction<LineDoubler> refused, int error) {
        for (int look = 0; look < LOOKS; look++) {
            LineDoubler x = maker.get();
            Check.due(call, refused.applyAsInt(x), error);
            Check.same("after " + call + ", look " + look, look(look, x), look(look, maker.get()));
        }
    }

    /** A call answers, and changes nothing. */
    static void onlyTells(String call, Supplier<LineDoubler> maker, ToIntFunction<LineDoubler> question) {
        for (int look = 0; look < LOOKS; look++) {
            LineDoubler x = maker.get();
            question.applyAsInt(x);
            Check.same("after " + call + ", look " + look, look(look, x), look(look, maker.get()));
        }
    }

    /** Each look takes an object of its own: most of them change it, and it is good for 512 calls. */
    private static String look(int look, LineDoubler x) {
        switch (look) {
            case 0:
                return Check.all(x);
            case 1:
                return Check.values(x) + x.count(25);
            case 2:
                return history(x);
            case 3:
                return x.count(24) + " " + x.fault() + " " + x.carryOut() + " " + x.count(24) + Check.counts(x);
            case 4:
                return x.restore(0) + Check.seen(x) + Check.values(x);
            case 5:
                return x.restore(1) + Check.seen(x) + Check.values(x);
            default:
                return x.pass(40) + Check.seen(x) + x.pass(7) + x.flush() + x.pass(7) + Check.counts(x);
        }
    }

    private static String history(LineDoubler x) {
        StringBuilder history = new StringBuilder(Check.counts(x));
        for (int undone = 0; undone < 8; undone++) {
            history.append(" undo ").append(x.undo()).append(Check.counts(x));
        }
        return history.toString();
    }
}
