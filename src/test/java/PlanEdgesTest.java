import java.util.Arrays;

/** What a plan is, and promises 8 to 11: each sentence that names a boundary. */
public final class PlanEdgesTest {
    private static final int NONE = CaseLists.NONE;
    private static final int LAST_DAY = 100000;

    public static void main(String[] args) {
        casesThatAreNotProved();
        casesThatAreNotProvedOnThisDay();
        casesThatAnyActShows();
        leastSecondsByOne();
        waysBetweenActsAlone();
        waysByOtherPlaces();
        fewestActs();
        fewestActsWithAWay();
        leastFirstAct();
        leastSecondAct();
        leastThirdActAndSoOn();
        leastFirstActOfAnotherSet();
        planOfNothing();
        planOfOneToEight();
        refusedPlan();
        plannedInTheirOrder();
        noneSuchIsPlanned();
        planThatWasMadeLast();
        secondsWithoutAPlan();
        secondsAtTheirLeastAndMost();
        fromAllCasesThatAnyActShows();
        fromBeginsWithTheAct();
        fromAtItsLeastAndMost();
        fromAnActThatShowsNoCase();
        Check.end();
    }

    private static void duePlan(String what, CaseLists x, int day, int seconds, int... acts) {
        Check.due(what + ": how many", acts.length, () -> x.plan(day));
        for (int i = 0; i < acts.length; i++) {
            int k = i;
            Check.due(what + ": act " + k, acts[k], () -> x.planned(k));
        }
        Check.illegalArgument(what + ": behind the last act", () -> x.planned(acts.length));
        Check.due(what + ": seconds", seconds, () -> x.seconds());
    }

    private static void allWays(CaseLists x, int seconds) {
        for (int p = 0; p < 10; p++) {
            for (int q = 0; q < p; q++) {
                x.way(p, q, seconds);
            }
        }
    }

    private static void casesThatAreNotProved() {
        Check.sentence("a set of acts that shows all cases that are not proved");
        CaseLists x = Samples.withCases(10, 5);
        for (int i = 0; i < 5; i++) {
            Samples.addAct(x, 0, 1, i);
        }
        x.result(1, 0, 20, false);
        x.result(2, 0, 20, true);
        x.result(2, 1, 20, false);
        Samples.prove(x, 3, 20);
        x.result(4, 0, 20, true);
        duePlan("open, failed, differing, one good word", x, 20, 4, 0, 1, 2, 4);
        x.result(4, 9, 20, true);
        duePlan("a second good word", x, 20, 3, 0, 1, 2);
    }

    private static void casesThatAreNotProvedOnThisDay() {
        Check.sentence("not proved on this day");
        CaseLists x = Samples.withCases(10, 1);
        Samples.addAct(x, 0, 1, 0);
        Samples.prove(x, 0, 20);
        x.change(0, 25);
        duePlan("the day before", x, 19, 1, 0);
        duePlan("its first day", x, 20, 0);
        duePlan("its last day", x, 24, 0);
        duePlan("the day of the touch", x, 25, 1, 0);
        CaseLists y = Samples.withCases(5000, 1);
        Samples.addAct(y, 0, 1, 0);
        Samples.prove(y, 0, 95000);
        duePlan("the last day", y, LAST_DAY, 0);
        duePlan("the first day", y, 0, 1, 0);
    }

    private static void casesThatAnyActShows() {
        Check.sentence("and are shown by any act");
        CaseLists x = Samples.withCases(10, 24);
        Samples.addAct(x, 0, 1, 23);
        duePlan("one of 24", x, 0, 1, 0);
        x.shows(0, 23, false);
        duePlan("none any more", x, 0, 0);
        x.shows(0, 0, true);
        duePlan("case 0", x, 0, 1, 0);
    }

    private static void leastSecondsByOne() {
        Check.sentence("with the least sum of the acts' seconds");
        CaseLists x = Samples.withCases(10, 2);
        Samples.addAct(x, 0, 10, 0);
        Samples.addAct(x, 0, 10, 1);
        Samples.addAct(x, 0, 21, 0, 1);
        duePlan("one second less", x, 0, 20, 0, 1);
        Samples.addAct(x, 0, 19, 0, 1);
        duePlan("one second less again", x, 0, 19, 3);
        CaseLists y = Samples.withCases(10, 3);
        Samples.addAct(y, 0, 10000, 0, 1, 2);
        Samples.addAct(y, 0, 3333, 0);
        Samples.addAct(y, 0, 3333, 1);
        Samples.addAct(y, 0, 3333, 2);
        duePlan("three against the dearest", y, 0, 9999, 1, 2, 3);
    }

    private static void waysBetweenActsAlone() {
        Check.sentence("and the ways from each act's place to the next one's");
        CaseLists x = Samples.withCases(10, 3);
        Samples.addAct(x, 7, 1, 0);
        Samples.addAct(x, 8, 2, 1);
        Samples.addAct(x, 9, 4, 2);
        allWays(x, 10000);
        x.way(7, 8, 100);
        x.way(8, 9, 200);
        duePlan("no way to the first, none behind the last", x, 0, 307, 0, 1, 2);
        x.way(7, 9, 50);
        duePlan("by the two shortest", x, 0, 157, 1, 0, 2);
    }

    private static void waysByOtherPlaces() {
        Check.sentence("the ways from each act's place to the next one's");
        CaseLists x = Samples.withCases(10, 2);
        Samples.addAct(x, 0, 1, 0);
        Samples.addAct(x, 1, 1, 1);
        x.way(0, 1, 10000);
        duePlan("not by a place without an act", x, 0, 10002, 0, 1);
        Samples.addAct(x, 2, 9999);
        duePlan("by an act that shows nothing, one second less", x, 0, 10001, 0, 2, 1);
        x.way(0, 2, 1);
        duePlan("as many seconds, so with fewer acts", x, 0, 10002, 0, 1);
    }

    private static void fewestActs() {
        Check.sentence("of several the one with fewest acts");
        CaseLists x = Samples.withCases(10, 8);
        for (int i = 0; i < 7; i++) {
            Samples.addAct(x, 0, 1, i);
        }
        Samples.addAct(x, 0, 7, 0, 1, 2, 3, 4, 5, 6);
        duePlan("one for seven", x, 0, 7, 7);
        x.shows(7, 6, false);
        duePlan("seven against two of eight seconds", x, 0, 7, 0, 1, 2, 3, 4, 5, 6);
    }

    private static void fewestActsWithAWay() {
        Check.sentence("of several the one with fewest acts");
        CaseLists x = Samples.withCases(10, 3);
        Samples.addAct(x, 0, 2, 0);
        Samples.addAct(x, 0, 2, 1);
        Samples.addAct(x, 0, 2, 2);
        Samples.addAct(x, 1, 2, 0, 1);
        x.way(0, 1, 3);
        duePlan("three of less seconds", x, 0, 6, 0, 1, 2);
        x.way(0, 1, 2);
        duePlan("two of as many seconds", x, 0, 6, 2, 3);
    }

    private static void leastFirstAct() {
        Check.sentence("of these the one whose first act is least");
        CaseLists x = Samples.withCases(10, 1);
        Samples.addAct(x, 0, 6);
        Samples.addAct(x, 1, 5, 0);
        Samples.addAct(x, 0, 5, 0);
        duePlan("one act of two", x, 0, 5, 1);
        x.shows(0, 0, true);
        duePlan("the least is dearer", x, 0, 5, 1);
        CaseLists y = Samples.withCases(10, 2);
        Samples.addAct(y, 0, 5, 1);
        Samples.addAct(y, 1, 5, 0);
        y.way(0, 1, 9);
        duePlan("there rather than back", y, 0, 19, 0, 1);
    }

    private static void leastSecondAct() {
        Check.sentence("then the second one");
        CaseLists x = Samples.withCases(10, 3);
        Samples.addAct(x, 0, 5, 0);
        Samples.addAct(x, 0, 5, 2);
        Samples.addAct(x, 0, 5, 1);
        duePlan("all three", x, 0, 15, 0, 1, 2);
        CaseLists y = Samples.withCases(10, 2);
        Samples.addAct(y, 0, 5, 0);
        Samples.addAct(y, 0, 6, 1);
        Samples.addAct(y, 0, 5, 1);
        Samples.addAct(y, 0, 5, 1);
        duePlan("the second of as many seconds", y, 0, 10, 0, 2);
    }

    private static void leastThirdActAndSoOn() {
        Check.sentence("and so on");
        CaseLists x = Samples.withCases(10, 8);
        for (int i = 0; i < 8; i++) {
            Samples.addAct(x, 0, 5, 7 - i);
        }
        duePlan("eight in their order", x, 0, 40, 0, 1, 2, 3, 4, 5, 6, 7);
        CaseLists y = Samples.withCases(10, 4);
        for (int i = 0; i < 8; i++) {
            Samples.addAct(y, i, 5, i / 2);
        }
        duePlan("the first of each two", y, 0, 20, 0, 2, 4, 6);
        allWays(y, 3);
        y.way(1, 3, 2);
        duePlan("ways to the second of some", y, 0, 28, 1, 3, 4, 6);
        y.way(4, 7, 2);
        duePlan("a third and a fourth act", y, 0, 27, 1, 3, 4, 7);
        y.way(3, 4, 4);
        duePlan("not the least third act, if it takes longer", y, 0, 27, 1, 3, 7, 4);
    }

    private static void leastFirstActOfAnotherSet() {
        Check.sentence("of these the one whose first act is least, then the second one");
        CaseLists x = Samples.withCases(10, 2);
        Samples.addAct(x, 0, 5, 0);
        Samples.addAct(x, 1, 5, 0);
        Samples.addAct(x, 2, 5, 1);
        Samples.addAct(x, 3, 5, 1);
        allWays(x, 10);
        x.way(0, 3, 1);
        x.way(1, 2, 1);
        duePlan("0 and 3 go before 1 and 2", x, 0, 11, 0, 3);
        x.way(2, 0, 1);
        duePlan("0 and 2 go before 0 and 3", x, 0, 11, 0, 2);
    }

    private static void planOfNothing() {
        Check.sentence("8: Makes a plan: how many acts");
        duePlan("a new object", new CaseLists(10), 0, 0);
        duePlan("cases, but no acts", Samples.withCases(10, 24), LAST_DAY, 0);
        CaseLists x = new CaseLists(10);
        x.act(0, 1);
        duePlan("acts, but no cases", x, 0, 0);
        x.fault(0, NONE);
        duePlan("an act that shows no case", x, 0, 0);
        x.shows(0, 0, true);
        Samples.prove(x, 0, 5);
        duePlan("nothing that is not proved", x, 5, 0);
    }

    private static void planOfOneToEight() {
        Check.sentence("8: Makes a plan: how many acts");
        CaseLists x = Samples.withCases(10, 24);
        int[] acts = new int[0];
        for (int i = 0; i < 8; i++) {
            Samples.addAct(x, 9 - i, 10000, 23 - i);
            acts = Arrays.copyOf(acts, i + 1);
            acts[i] = i;
            duePlan("acts: " + (i + 1), x, LAST_DAY, 10000 * (i + 1), acts);
        }
    }

    private static void refusedPlan() {
        Check.sentence("8: Illegal argument .. a call that throws changes nothing");
        Twins small = new Twins(Samples::small);
        small.illegalArgument("the day before the first", x -> x.plan(-1));
        small.illegalArgument("the day behind the last", x -> x.plan(LAST_DAY + 1));
        CaseLists y = Samples.withCases(10, 1);
        Check.illegalArgument("a first plan", () -> y.plan(-1));
        Check.illegalArgument("there is none", () -> y.planned(0));
        Check.due("nor seconds", 0, () -> y.seconds());
    }

    private static void plannedInTheirOrder() {
        Check.sentence("9: The k-th act (from 0, in their order)");
        CaseLists x = Samples.withCases(10, 3);
        Samples.addAct(x, 0, 1, 0);
        Samples.addAct(x, 1, 1, 1);
        Samples.addAct(x, 2, 1, 2);
        allWays(x, 100);
        x.way(1, 2, 1);
        x.way(0, 2, 50);
        Check.due("three", 3, () -> x.plan(0));
        Check.due("the first", 0, () -> x.planned(0));
        Check.due("the second", 2, () -> x.planned(1));
        Check.due("the last", 1, () -> x.planned(2));
        Check.due("the first again", 0, () -> x.planned(0));
    }

    private static void noneSuchIsPlanned() {
        Check.sentence("9: Illegal argument: there is none such");
        CaseLists x = Samples.withCases(10, 2);
        Samples.addAct(x, 0, 1, 0);
        Samples.addAct(x, 0, 1, 1);
        Check.illegalArgument("no plan was made", () -> x.planned(0));
        x.plan(0);
        Check.due("the last", 1, () -> x.planned(1));
        Check.illegalArgument("behind the last", () -> x.planned(2));
        Check.illegalArgument("before the first", () -> x.planned(-1));
        Samples.prove(x, 0, 20);
        x.plan(20);
        Check.due("of a shorter plan", 1, () -> x.planned(0));
        Check.illegalArgument("not of the longer one before", () -> x.planned(1));
        Samples.prove(x, 1, 20);
        x.plan(20);
        Check.illegalArgument("the plan has no acts", () -> x.planned(0));
    }

    private static void planThatWasMadeLast() {
        Check.sentence("9, 10: the plan that was made last");
        CaseLists x = Samples.withCases(10, 2);
        Samples.addAct(x, 0, 5, 0);
        Samples.addAct(x, 1, 6, 1);
        x.way(0, 1, 7);
        x.plan(0);
        x.way(0, 1, 100);
        x.shows(0, 0, false);
        Samples.prove(x, 1, 0);
        Samples.addAct(x, 0, 1, 0, 1);
        Check.illegalArgument("refused", () -> x.plan(LAST_DAY + 1));
        Check.due("from makes none", 1, () -> x.from(2));
        Check.due("its first act", 0, () -> x.planned(0));
        Check.due("its second act", 1, () -> x.planned(1));
        Check.due("its seconds", 18, () -> x.seconds());
        duePlan("a new one", x, 0, 1, 2);
    }

    private static void secondsWithoutAPlan() {
        Check.sentence("10: 0 without one");
        CaseLists x = Samples.withCases(10, 1);
        Check.due("a new object", 0, () -> x.seconds());
        Samples.addAct(x, 0, 10000, 0);
        Check.due("before the first plan", 0, () -> x.seconds());
        x.from(0);
        Check.due("from makes none", 0, () -> x.seconds());
        x.plan(0);
        Check.due("with one", 10000, () -> x.seconds());
        Samples.prove(x, 0, 0);
        x.plan(0);
        Check.due("a plan without acts", 0, () -> x.seconds());
    }

    private static void secondsAtTheirLeastAndMost() {
        Check.sentence("10: How many seconds the plan that was made last takes, ways and all");
        CaseLists x = Samples.withCases(10, 1);
        Samples.addAct(x, 0, 1, 0);
        duePlan("the least", x, 0, 1, 0);
        CaseLists y = Samples.withCases(10, 8);
        for (int i = 0; i < 8; i++) {
            Samples.addAct(y, i + 2, 10000, i);
        }
        allWays(y, 10000);
        duePlan("the most", y, 0, 150000, 0, 1, 2, 3, 4, 5, 6, 7);
    }

    private static void fromAllCasesThatAnyActShows() {
        Check.sentence("11: How many seconds it takes at least to show all cases that any act shows");
        CaseLists x = Samples.withCases(10, 3);
        Samples.addAct(x, 0, 5, 0);
        Samples.addAct(x, 0, 50, 1);
        Check.due("both cases", 55, () -> x.from(0));
        Samples.prove(x, 1, 0);
        x.plan(0);
        Check.due("proved or not", 55, () -> x.from(0));
        x.shows(1, 2, true);
        Check.due("the third as well", 55, () -> x.from(0));
        x.shows(0, 1, true);
        x.shows(0, 2, true);
        Check.due("by itself", 5, () -> x.from(0));
        Check.due("the other begins", 55, () -> x.from(1));
        x.shows(1, 0, true);
        Check.due("the other by itself", 50, () -> x.from(1));
        Samples.addAct(x, 0, 8, 1, 2);
        x.shows(0, 1, false);
        x.shows(0, 2, false);
        Check.due("with the cheapest act for the rest", 13, () -> x.from(0));
    }

    private static void fromBeginsWithTheAct() {
        Check.sentence("11: and begin with an act");
        CaseLists x = Samples.withCases(10, 3);
        Samples.addAct(x, 0, 1, 0);
        Samples.addAct(x, 1, 1, 1);
        Samples.addAct(x, 2, 1, 2);
        x.way(0, 1, 10);
        x.way(1, 2, 20);
        x.way(0, 2, 100);
        Check.due("from one end", 33, () -> x.from(0));
        Check.due("from the other end", 33, () -> x.from(2));
        Check.due("from the middle", 113, () -> x.from(1));
        Samples.addAct(x, 3, 4);
        x.way(1, 3, 1);
        Check.due("by an act that shows nothing", 17, () -> x.from(1));
        x.way(0, 3, 1);
        x.way(2, 3, 1);
        Check.due("with ways to it", 19, () -> x.from(1));
    }

    private static void fromAtItsLeastAndMost() {
        Check.sentence("11: How many seconds it takes at least");
        CaseLists x = Samples.withCases(10, 1);
        Samples.addAct(x, 9, 1, 0);
        Check.due("the least", 1, () -> x.from(0));
        CaseLists y = Samples.withCases(10, 8);
        for (int i = 0; i < 8; i++) {
            Samples.addAct(y, i, 10000, i);
        }
        allWays(y, 10000);
        for (int i = 0; i < 8; i++) {
            int act = i;
            Check.due("the most", 150000, () -> y.from(act));
        }
    }

    private static void fromAnActThatShowsNoCase() {
        Check.sentence("11: NONE if the act is not needed for that in any way (it shows no case)");
        CaseLists x = new CaseLists(10);
        Samples.addAct(x, 0, 5);
        Check.due("there are no cases", NONE, () -> x.from(0));
        x.fault(0, NONE);
        Check.due("it shows none", NONE, () -> x.from(0));
        Samples.addAct(x, 0, 7, 0);
        Check.due("another one does", NONE, () -> x.from(0));
        Check.due("the other one", 7, () -> x.from(1));
        x.shows(0, 0, true);
        Check.due("it does as well", 5, () -> x.from(0));
        Check.due("each is enough", 7, () -> x.from(1));
        x.shows(0, 0, false);
        Check.due("not any more", NONE, () -> x.from(0));
        Check.illegalArgument("no such act", () -> x.from(2));
    }
}
