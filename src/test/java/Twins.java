import java.util.Arrays;
import java.util.function.Supplier;
import java.util.function.ToLongFunction;

/** Sees whether a call that throws changes anything: compares with a twin that was spared the call. */
final class Twins {
    private final Supplier<CaseLists> maker;
    private final long[] asked;
    private final long[] toldAgain;

    Twins(Supplier<CaseLists> maker) {
        this.maker = maker;
        this.asked = Samples.asked(maker.get());
        this.toldAgain = Samples.toldAgain(maker.get());
    }

    CaseLists one() {
        return maker.get();
    }

    void illegalArgument(String what, ToLongFunction<CaseLists> call) {
        refused(what, Check.ILLEGAL_ARGUMENT, call);
    }

    void illegalState(String what, ToLongFunction<CaseLists> call) {
        refused(what, Check.ILLEGAL_STATE, call);
    }

    private void refused(String what, long exception, ToLongFunction<CaseLists> call) {
        CaseLists x = maker.get();
        Check.due(what, exception, () -> call.applyAsLong(x));
        Check.due(what + ": it changes nothing that can be asked", true, Arrays.equals(asked, Samples.asked(x)));
        CaseLists y = maker.get();
        Check.of(() -> call.applyAsLong(y));
        Check.due(what + ": it changes nothing that is told", true, Arrays.equals(toldAgain, Samples.toldAgain(y)));
    }
}
