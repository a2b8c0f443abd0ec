/** Promises 8 to 11: plans. */
public final class PlansTest {
    private static final int NONE = CaseLists.NONE;

    public static void main(String[] args) {
        emptyPlan();
        onlyWhatIsNotProved();
        leastSecondsGoFirst();
        thenFewestActs();
        thenLeastActs();
        anActThatShowsNothingMayShortenTheWay();
        aPlanStaysAsItWasMade();
        longestPlan();
        fromBeginsWithTheAct();
        wrongArguments();
        Check.end();
    }

    /** Cases 0 .. n - 1, each of the point of its number. */
    private static CaseLists withCases(int n) {
        CaseLists x = new CaseLists(10);
        for (int i = 0; i < n; i++) {
            x.fault(i, NONE);
        }
        return x;
    }

    private static void addAct(CaseLists x, int place, int seconds, int... faults) {
        int act = x.act(place, seconds);
        for (int f : faults) {
            x.shows(act, f, true);
        }
    }

    private static void duePlan(String what, CaseLists x, int day, int seconds, int... acts) {
        Check.due("8 " + what, acts.length, () -> x.plan(day));
        for (int i = 0; i < acts.length; i++) {
            int k = i;
            Check.due("9 " + what + ", act " + k, acts[k], () -> x.planned(k));
        }
        Check.illegalArgument("9 " + what + ", behind the last", () -> x.planned(acts.length));
        Check.illegalArgument("9 " + what + ", before the first", () -> x.planned(-1));
        Check.due("10 " + what, seconds, () -> x.seconds());
    }

    private static void emptyPlan() {
        CaseLists x = withCases(2);
        duePlan("without acts", x, 0, 0);
        addAct(x, 3, 5);
        duePlan("nothing is shown", x, 100000, 0);
    }

    private static void onlyWhatIsNotProved() {
        CaseLists x = withCases(3);
        addAct(x, 0, 5, 0);
        addAct(x, 0, 5, 1);
        duePlan("both are open", x, 4, 10, 0, 1);
        x.result(0, 0, 4, true);
        duePlan("one word does not prove", x, 4, 10, 0, 1);
        x.result(0, 1, 4, true);
        duePlan("proved on the day", x, 4, 5, 1);
        duePlan("not the day before", x, 3, 10, 0, 1);
        duePlan("not any more", x, 15, 10, 0, 1);
        x.result(0, 2, 5, false);
        duePlan("it differs", x, 5, 10, 0, 1);
        x.result(1, 0, 4, true);
        x.result(1, 1, 4, true);
        duePlan("all are proved", x, 4, 0);
        x.change(1, 4);
        duePlan("touched", x, 4, 5, 1);
    }

    private static void leastSecondsGoFirst() {
        CaseLists x = withCases(2);
        addAct(x, 0, 10, 0);
        addAct(x, 1, 10, 1);
        addAct(x, 2, 21, 0, 1);
        duePlan("two are shorter than one", x, 0, 20, 0, 1);
        x.way(0, 1, 2);
        duePlan("the way is too long", x, 0, 21, 2);
        addAct(x, 1, 8, 0);
        duePlan("two at one place", x, 0, 18, 1, 3);
    }

    private static void thenFewestActs() {
        CaseLists x = withCases(2);
        addAct(x, 0, 10, 0);
        addAct(x, 0, 10, 1);
        addAct(x, 0, 20, 0, 1);
        duePlan("one act is fewer", x, 0, 20, 2);
    }

    private static void thenLeastActs() {
        CaseLists x = withCases(4);
        addAct(x, 0, 7, 0, 1);
        addAct(x, 0, 7, 2, 3);
        addAct(x, 0, 7, 0, 1);
        addAct(x, 0, 7, 2);
        addAct(x, 0, 7, 3);
        duePlan("the first act, then the second", x, 0, 14, 0, 1);
        x.shows(0, 1, false);
        duePlan("another set", x, 0, 14, 1, 2);
        x.shows(0, 1, true);
        x.shows(0, 2, true);
        x.shows(4, 2, true);
        duePlan("0 1 before 0 4", x, 0, 14, 0, 1);
        CaseLists y = withCases(3);
        addAct(y, 0, 1, 0);
        addAct(y, 1, 1, 1);
        addAct(y, 2, 1, 2);
        y.way(0, 1, 5);
        duePlan("a detour's order", y, 0, 3, 0, 2, 1);
        y.way(0, 2, 5);
        duePlan("the least first act of equal orders", y, 0, 8, 0, 1, 2);
        y.way(0, 2, 4);
        duePlan("not the least second act", y, 0, 7, 0, 2, 1);
        y.way(1, 2, 9);
        duePlan("not the least first act", y, 0, 12, 1, 0, 2);
    }

    private static void anActThatShowsNothingMayShortenTheWay() {
        CaseLists x = withCases(2);
        addAct(x, 0, 5, 0);
        addAct(x, 1, 5, 1);
        addAct(x, 2, 1);
        x.way(0, 1, 1);
        duePlan("direct with as many seconds, fewer acts", x, 0, 11, 0, 1);
        x.way(0, 1, 2);
        duePlan("by an act that shows nothing", x, 0, 11, 0, 2, 1);
        Check.due("11 by an act that shows nothing", 11, () -> x.from(1));
    }

    private static void aPlanStaysAsItWasMade() {
        CaseLists x = withCases(1);
        addAct(x, 0, 5, 0);
        x.plan(0);
        addAct(x, 1, 2, 0);
        x.way(0, 1, 9);
        x.shows(0, 0, false);
        Check.illegalArgument("8 a refused plan", () -> x.plan(-1));
        Check.due("9 the plan that was made last", 0, () -> x.planned(0));
        Check.due("10 the plan that was made last", 5, () -> x.seconds());
        x.from(1);
        Check.due("9 from makes no plan", 0, () -> x.planned(0));
        duePlan("a new one", x, 0, 2, 1);
    }

    private static void longestPlan() {
        CaseLists x = withCases(24);
        for (int a = 0; a < 8; a++) {
            addAct(x, a, 10000, 3 * a, 3 * a + 1, 3 * a + 2);
        }
        for (int p = 0; p < 10; p++) {
            for (int q = 0; q < p; q++) {
                x.way(p, q, 10000);
            }
        }
        duePlan("all acts and ways at their most", x, 0, 150000, 0, 1, 2, 3, 4, 5, 6, 7);
        Check.due("11 all acts", 150000, () -> x.from(7));
    }

    private static void fromBeginsWithTheAct() {
        CaseLists x = withCases(3);
        addAct(x, 0, 10, 0, 1);
        addAct(x, 1, 20, 1);
        addAct(x, 2, 30);
        Check.due("11 it is enough by itself", 10, () -> x.from(0));
        Check.due("11 the other is needed as well", 30, () -> x.from(1));
        Check.due("11 it shows no case", NONE, () -> x.from(2));
        x.way(0, 1, 7);
        Check.due("11 with the way", 37, () -> x.from(1));
        x.result(0, 0, 0, true);
        x.result(0, 1, 0, true);
        Check.due("11 proved cases too", 37, () -> x.from(1));
        x.shows(2, 2, true);
        Check.due("11 one case more", 60, () -> x.from(1));
        Check.due("11 from the act of the new case", 40, () -> x.from(2));
    }

    private static void wrongArguments() {
        CaseLists x = withCases(1);
        addAct(x, 0, 5, 0);
        x.plan(0);
        int[] days = {-1, 100001, Integer.MIN_VALUE, Integer.MAX_VALUE};
        for (int day : days) {
            Check.illegalArgument("8 plan(" + day + ")", () -> x.plan(day));
        }
        int[] others = {-1, 1, 8, Integer.MIN_VALUE, Integer.MAX_VALUE};
        for (int n : others) {
            Check.illegalArgument("9 planned(" + n + ")", () -> x.planned(n));
            Check.illegalArgument("11 from(" + n + ")", () -> x.from(n));
        }
    }
}
