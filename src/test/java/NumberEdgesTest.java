/** Each number of each call at its bounds, just outside of them, and where a narrower number would wrap around. */
public final class NumberEdgesTest {
    private static final int NONE = CaseLists.NONE;
    private static final int LAST_DAY = 100000;
    private static final int NO_BOUND = Integer.MAX_VALUE;
    // A number that is cut to 5, 6, 8, 16 or 31 bits is the same behind these steps.
    private static final int[] STEPS = {1, 32, 64, 256, 65536, Integer.MIN_VALUE};

    interface Numbers {
        long answer(CaseLists x, int number);
    }

    private final String sample;
    private final Twins twins;
    private final int cases;
    private final int acts;
    private final int planned;

    private NumberEdgesTest(String sample, Twins twins, int cases, int acts, int planned) {
        this.sample = sample;
        this.twins = twins;
        this.cases = cases;
        this.acts = acts;
        this.planned = planned;
    }

    public static void main(String[] args) {
        Check.sentence("In all calls illegal argument: a number is out of its bounds, there is no such thing."
                + " .. a call that throws changes nothing.");
        new NumberEdgesTest("empty", new Twins(() -> new CaseLists(10)), 0, 0, 0).all();
        new NumberEdgesTest("small", new Twins(Samples::small), 3, 3, 2).all();
        new NumberEdgesTest("full", new Twins(Samples::full), 24, 8, 8).all();
        Check.end();
    }

    private void all() {
        points();
        places();
        seconds();
        actNumbers();
        days();
        persons();
        lists();
        if (cases > 0) {
            caseNumbers();
            daysOfCases();
        }
        if (cases == 0) {
            nothingOfACase();
        }
    }

    private void points() {
        bounds("fault: point", 0, 29, (x, n) -> x.fault(n, NONE));
        bounds("fault: point of two", 0, 28, 29, (x, n) -> x.fault(n, 29));
        bounds("fault: other", NONE, 28, 29, (x, n) -> x.fault(29, n));
        bounds("change: point", 0, 29, (x, n) -> x.change(n, 0));
    }

    private void places() {
        bounds("act: place", 0, 9, (x, n) -> x.act(n, 1));
        bounds("way: place", 0, 8, 9, (x, n) -> x.way(n, 9, 1));
        bounds("way: other", 0, 8, 9, (x, n) -> x.way(9, n, 1));
    }

    private void seconds() {
        bounds("act: seconds", 1, 10000, (x, n) -> x.act(0, n));
        bounds("way: seconds", 0, 10000, (x, n) -> x.way(0, 1, n));
    }

    private void actNumbers() {
        bounds("from: act", 0, acts - 1, (x, n) -> x.from(n));
        bounds("planned: k", 0, planned - 1, (x, n) -> x.planned(n));
        if (cases > 0) {
            bounds("shows: act, on", 0, acts - 1, (x, n) -> x.shows(n, cases - 1, true) ? 1 : 0);
            bounds("shows: act, off", 0, acts - 1, (x, n) -> x.shows(n, 0, false) ? 1 : 0);
        }
    }

    private void caseNumbers() {
        bounds("shows: fault, on", 0, cases - 1, (x, n) -> x.shows(acts - 1, n, true) ? 1 : 0);
        bounds("shows: fault, off", 0, cases - 1, (x, n) -> x.shows(0, n, false) ? 1 : 0);
        bounds("result: fault", 0, cases - 1, (x, n) -> x.result(n, 0, 1000, true));
        bounds("state: fault", 0, cases - 1, (x, n) -> x.state(n, 20));
        bounds("word: fault", 0, cases - 1, (x, n) -> x.word(n, 0, 20));
        bounds("proves: fault", 0, cases - 1, (x, n) -> x.proves(n, 21));
        bounds("touched: fault", 0, cases - 1, (x, n) -> x.touched(n, 20));
    }

    private void days() {
        bounds("change: day", 0, LAST_DAY, (x, n) -> x.change(1, n));
        bounds("plan: day", 0, LAST_DAY, (x, n) -> x.plan(n));
        bounds("listed: day", 0, LAST_DAY, (x, n) -> x.listed(0, n, 0));
    }

    private void daysOfCases() {
        bounds("result: day", 0, LAST_DAY, (x, n) -> x.result(1, 0, n, true));
        bounds("state: day", 0, LAST_DAY, (x, n) -> x.state(0, n));
        bounds("word: day", 0, LAST_DAY, (x, n) -> x.word(0, 0, n));
        bounds("proves: day", 0, LAST_DAY, (x, n) -> x.proves(0, n));
        bounds("touched: day", 0, LAST_DAY, (x, n) -> x.touched(0, n));
    }

    private void persons() {
        if (cases > 0) {
            bounds("result: person", 0, 9, (x, n) -> x.result(1, n, 20, true));
            bounds("word: person", 0, 9, (x, n) -> x.word(1, n, 20));
        }
    }

    private void lists() {
        bounds("listed: state", 0, 3, (x, n) -> x.listed(n, 20, 0));
        bounds("listed: k", 0, NO_BOUND, (x, n) -> x.listed(0, 20, n));
        bounds("hidden: k", 0, NO_BOUND, (x, n) -> x.hidden(n));
    }

    private void nothingOfACase() {
        bounds("shows: fault", 0, -1, (x, n) -> x.shows(0, n, true) ? 1 : 0);
        bounds("result: fault", 0, -1, (x, n) -> x.result(n, 0, 0, true));
        bounds("state: fault", 0, -1, (x, n) -> x.state(n, 0));
        bounds("word: fault", 0, -1, (x, n) -> x.word(n, 0, 0));
        bounds("proves: fault", 0, -1, (x, n) -> x.proves(n, 0));
        bounds("touched: fault", 0, -1, (x, n) -> x.touched(n, 0));
    }

    private void bounds(String what, int least, int most, Numbers call) {
        bounds(what, least, most, most, call);
    }

    /** Numbers above most, up to barred, are within their bounds, but refused for another reason. */
    private void bounds(String what, int least, int most, int barred, Numbers call) {
        for (int n : new int[] {least, least + 1, most - 1, most}) {
            if (n >= least && n <= most) {
                CaseLists x = twins.one();
                Check.due(name(what, n) + " is an illegal argument", false,
                        Check.of(() -> call.answer(x, n)) == Check.ILLEGAL_ARGUMENT);
            }
        }
        for (int step : STEPS) {
            outside(what, least - step, least, most, call);
            outside(what, least + step, least, most, call);
            outside(what, most + step, least, most, call);
            outside(what, barred + step, least, most, call);
        }
        outside(what, barred, least, most, call);
        outside(what, Integer.MIN_VALUE, least, most, call);
        outside(what, Integer.MAX_VALUE, least, most, call);
    }

    private void outside(String what, int n, int least, int most, Numbers call) {
        if (n < least || n > most) {
            twins.illegalArgument(name(what, n), x -> call.answer(x, n));
        }
    }

    private String name(String what, int n) {
        return sample + ": " + what + " " + n;
    }
}
