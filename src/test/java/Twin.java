import java.util.function.Predicate;
import java.util.function.Supplier;
import java.util.function.ToIntFunction;

/** Two objects of the same making, one of which is asked for what can't be done: both must go on alike. */
final class Twin {
    private final RopeRace x;
    private final StringBuilder told = new StringBuilder();

    private Twin(RopeRace x) {
        this.x = x;
    }

    static void refused(String call, Supplier<RopeRace> make, ToIntFunction<RopeRace> ask, int want) {
        RopeRace asked = make.get();
        Due.is(call, ask.applyAsInt(asked), want);
        Due.is(call + " changes nothing", new Twin(asked).goOn().equals(new Twin(make.get()).goOn()), true);
    }

    static void refused(String call, Supplier<RopeRace> make, Predicate<RopeRace> ask) {
        refused(call, make, x -> ask.test(x) ? 1 : 0, 0);
    }

    /** All that the object answers on its way to the end of the next year. */
    private String goOn() {
        look();
        readTape();
        endYear();
        tell(x.next());
        endYear();
        return told.toString();
    }

    private void tell(int answer) {
        told.append(answer).append(' ');
    }

    private void tell(boolean answer) {
        tell(answer ? 1 : 0);
    }

    private void readTape() {
        int[] w = Due.words("false 5; apart");
        int length = x.feed(w[0], w[1], w[2], w[3], w[4]);
        tell(length);
        tell(x.statute(length == RopeRace.NONE ? 600 : length, 0));
        tell(x.fault(0));
        tell(x.fault(1));
    }

    private void endYear() {
        tell(x.choose(7));
        tell(x.pick());
        tell(x.lots(8));
        // A false start at first, if another ward was seen at a place.
        tell(x.drop(9));
        tell(x.drop(10));
        tell(x.go(3));
        look();
        tell(x.go(400));
        look();
    }

    private void look() {
        told.append('\n');
        for (int what = 0; what < 8; what++) {
            tell(x.count(what));
        }
        int year = x.count(0);
        for (int what = 0; what < 7; what++) {
            tell(x.law(what, year));
        }
        tell(x.fault(0));
        tell(x.fault(1));
        tell(x.won());
        int wards = x.count(3);
        for (int ward = 0; ward < wards; ward++) {
            for (int what = 0; what < 5; what++) {
                tell(x.look(ward, what));
            }
            lookAtRunner(ward);
        }
        for (int what = 0; what < 3; what++) {
            lookAtRow(what);
        }
    }

    private void lookAtRunner(int ward) {
        int dist = x.race(ward, 0);
        tell(dist);
        for (int what = 1; what < 6 && dist != -100; what++) {
            tell(x.race(ward, what));
        }
    }

    private void lookAtRow(int what) {
        int drawn = 0;
        for (int k = 0; k < 10 && drawn != RopeRace.NONE; k++) {
            drawn = x.drawn(what, k);
            tell(drawn);
        }
    }
}
