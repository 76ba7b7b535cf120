import java.util.function.Supplier;
import java.util.function.ToLongFunction;

/**
 * A call that is refused: what it answers, and that nothing changes. Each look at an object is at
 * one made for it, so that none is asked more than 512 times.
 */
final class Refusal {
    /** Stands for an ArrayIndexOutOfBoundsException. */
    static final long THROWN = Long.MIN_VALUE;

    private final Due due;

    Refusal(Due due) {
        this.due = due;
    }

    void in(Scene[] scenes, String sentence, long code, ToLongFunction<ResampledRows> call) {
        for (Scene scene : scenes) {
            of(scene::make, sentence + " in " + scene, code, call);
        }
    }

    void of(Supplier<ResampledRows> maker, String sentence, long code, ToLongFunction<ResampledRows> call) {
        due.is(sentence, call.applyAsLong(maker.get()), code);
        alike(sentence, () -> behind(maker, call), maker);
    }

    void alike(String sentence, Supplier<ResampledRows> one, Supplier<ResampledRows> other) {
        due.isText(sentence + ": RUN", Look.rows(one.get()), Look.rows(other.get()));
        due.isText(sentence + ": TABLES", Look.tables(one.get()), Look.tables(other.get()));
        due.isText(sentence + ": DRAWS to come", Look.goesOn(one.get()), Look.goesOn(other.get()));
    }

    private static ResampledRows behind(Supplier<ResampledRows> maker, ToLongFunction<ResampledRows> call) {
        ResampledRows x = maker.get();
        call.applyAsLong(x);
        return x;
    }

    static long history(ResampledRows x, int row, int i) {
        try {
            return x.history(row, i);
        } catch (RuntimeException e) {
            return e.getClass() == ArrayIndexOutOfBoundsException.class ? THROWN : THROWN + 1;
        }
    }
}
