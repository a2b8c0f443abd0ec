import java.util.Arrays;

/** Promises 12 to 17: each sentence that names a boundary. */
public final class ToldEdgesTest {
    private static final int NONE = CaseLists.NONE;
    private static final int LAST_DAY = 100000;

    public static void main(String[] args) {
        statesByTheirNumbers();
        stateOfEachCase();
        wordsByTheirNumbers();
        wordAtTheEdgeDays();
        listedFromZeroByNumbers();
        listedNone();
        listedAllCases();
        listedBelowZero();
        hiddenFromZero();
        hiddenNone();
        hiddenAllCases();
        hiddenBelowZero();
        provesTheDayItself();
        provesTheFirstDay();
        provesUpToEachLifesEnd();
        provesOverTheLifesEnd();
        provesUpToATouch();
        provesUpToAWord();
        provesBehindTheLastDay();
        provesWithAllResults();
        touchedUpToTheDay();
        touchedNone();
        touchedAtTheEdgeDays();
        touchedTheLatest();
        askingChangesNothing();
        Check.end();
    }

    private static void statesByTheirNumbers() {
        Check.sentence("12: A case on a day: 0 OPEN, 1 FAILED, 2 it DIFFERS, 3 PROVED");
        CaseLists x = Samples.withCases(10, 1);
        Check.due("no word", 0, () -> x.state(0, 20));
        x.result(0, 0, 20, false);
        Check.due("one, not good", 1, () -> x.state(0, 20));
        x.result(0, 1, 20, true);
        Check.due("two that differ", 2, () -> x.state(0, 20));
        x.result(0, 0, 20, true);
        Check.due("two good ones", 3, () -> x.state(0, 20));
        x.change(0, 20);
        Check.due("touched", 0, () -> x.state(0, 20));
    }

    private static void stateOfEachCase() {
        Check.sentence("12: A case on a day");
        CaseLists x = Samples.withCases(10, 24);
        Samples.prove(x, 0, 0);
        Samples.prove(x, 23, LAST_DAY);
        Check.due("case 0, the first day", Samples.PROVED, () -> x.state(0, 0));
        Check.due("case 23, the first day", Samples.OPEN, () -> x.state(23, 0));
        Check.due("case 0, the last day", Samples.OPEN, () -> x.state(0, LAST_DAY));
        Check.due("case 23, the last day", Samples.PROVED, () -> x.state(23, LAST_DAY));
        Check.due("case 1", Samples.OPEN, () -> x.state(1, 0));
        Check.due("case 22", Samples.OPEN, () -> x.state(22, LAST_DAY));
    }

    private static void wordsByTheirNumbers() {
        Check.sentence("13: A person's WORD for a case on a day: 1 good, 0 not; NONE");
        CaseLists x = Samples.withCases(10, 1);
        Check.due("none", NONE, () -> x.word(0, 0, 20));
        x.result(0, 0, 20, true);
        x.result(0, 9, 20, false);
        Check.due("good", 1, () -> x.word(0, 0, 20));
        Check.due("not", 0, () -> x.word(0, 9, 20));
        Check.due("the person between", NONE, () -> x.word(0, 8, 20));
        x.change(0, 20);
        Check.due("touched", NONE, () -> x.word(0, 0, 20));
        Check.due("touched, not good", NONE, () -> x.word(0, 9, 20));
    }

    private static void wordAtTheEdgeDays() {
        Check.sentence("13: A person's WORD for a case on a day");
        CaseLists x = Samples.withCases(10, 1);
        x.result(0, 0, 0, false);
        x.result(0, 9, LAST_DAY, true);
        Check.due("the first day", 0, () -> x.word(0, 0, 0));
        Check.due("the first day, the other person", NONE, () -> x.word(0, 9, 0));
        Check.due("the last day", 1, () -> x.word(0, 9, LAST_DAY));
        Check.due("the last day but one", NONE, () -> x.word(0, 9, LAST_DAY - 1));
    }

    /** Cases 0 and 4 are open on day 5, 1 and 5 failed, 2 and 6 differ, 3 and 7 are proved. */
    private static CaseLists withTwoOfEachState() {
        CaseLists x = Samples.withCases(10, 8);
        for (int i = 7; i >= 0; i--) {
            if (i % 4 == 1) {
                x.result(i, 0, 5, false);
            } else if (i % 4 > 1) {
                Samples.prove(x, i, 5);
            }
            if (i % 4 == 2) {
                x.result(i, 1, 5, false);
            }
        }
        return x;
    }

    private static void listedFromZeroByNumbers() {
        Check.sentence("14: The k-th case (from 0, by numbers) that is in a state (0 .. 3) on a day");
        CaseLists x = withTwoOfEachState();
        for (int s = 0; s < 4; s++) {
            int state = s;
            Check.due("the first in state " + s, s, () -> x.listed(state, 5, 0));
            Check.due("the second in state " + s, s + 4, () -> x.listed(state, 5, 1));
        }
        Check.due("all are open the day before", 7, () -> x.listed(0, 4, 7));
        Check.due("and behind the life", 7, () -> x.listed(0, 16, 7));
        Check.illegalArgument("state 4", () -> x.listed(4, 5, 0));
        Check.illegalArgument("state -1", () -> x.listed(-1, 5, 0));
    }

    private static void listedNone() {
        Check.sentence("14: NONE");
        CaseLists x = withTwoOfEachState();
        for (int s = 0; s < 4; s++) {
            int state = s;
            Check.due("no third in state " + s, NONE, () -> x.listed(state, 5, 2));
            Check.due("far behind in state " + s, NONE, () -> x.listed(state, 5, Integer.MAX_VALUE));
            Check.due("without a case", NONE, () -> new CaseLists(10).listed(state, 5, 0));
        }
        Check.due("none is proved the day before", NONE, () -> x.listed(3, 4, 0));
    }

    private static void listedAllCases() {
        Check.sentence("14: The k-th case (from 0, by numbers)");
        CaseLists x = Samples.withCases(10, 24);
        for (int i = 0; i < 24; i++) {
            int k = i;
            Check.due("case " + k, k, () -> x.listed(0, LAST_DAY, k));
        }
        Check.due("behind the last", NONE, () -> x.listed(0, LAST_DAY, 24));
    }

    private static void listedBelowZero() {
        Check.sentence("14: Illegal argument: also if k is below 0");
        CaseLists x = Samples.withCases(10, 1);
        for (int k : new int[] {-1, -2, -24, Integer.MIN_VALUE}) {
            Check.illegalArgument("a state that has a case", () -> x.listed(0, 0, k));
            Check.illegalArgument("a state that has none", () -> x.listed(3, 0, k));
            Check.illegalArgument("no cases at all", () -> new CaseLists(10).listed(0, 0, k));
        }
    }

    private static void hiddenFromZero() {
        Check.sentence("15: The k-th case that no act shows");
        CaseLists x = Samples.withCases(10, 4);
        Samples.addAct(x, 0, 1, 1);
        Samples.addAct(x, 0, 1, 1, 2);
        Check.due("the first", 0, () -> x.hidden(0));
        Check.due("the second", 3, () -> x.hidden(1));
        x.shows(1, 1, false);
        Check.due("one act of two shows it still", 3, () -> x.hidden(1));
        x.shows(0, 1, false);
        Check.due("no act shows it", 1, () -> x.hidden(1));
        Samples.prove(x, 0, 0);
        Check.due("proved cases too", 0, () -> x.hidden(0));
    }

    private static void hiddenNone() {
        Check.sentence("15: NONE");
        Check.due("no cases", NONE, () -> new CaseLists(10).hidden(0));
        CaseLists x = Samples.withCases(10, 2);
        Samples.addAct(x, 0, 1, 1);
        Check.due("no second one", NONE, () -> x.hidden(1));
        Check.due("far behind", NONE, () -> x.hidden(Integer.MAX_VALUE));
        x.shows(0, 0, true);
        Check.due("all are shown", NONE, () -> x.hidden(0));
    }

    private static void hiddenAllCases() {
        Check.sentence("15: The k-th case that no act shows");
        CaseLists x = Samples.withCases(10, 24);
        for (int i = 0; i < 24; i++) {
            int k = i;
            Check.due("case " + k, k, () -> x.hidden(k));
        }
        Check.due("behind the last", NONE, () -> x.hidden(24));
        for (int i = 0; i < 7; i++) {
            Samples.addAct(x, 0, 1);
        }
        Samples.addAct(x, 0, 1, 23);
        Check.due("the last act shows the last case", NONE, () -> x.hidden(23));
    }

    private static void hiddenBelowZero() {
        Check.sentence("15: Illegal argument: k is below 0");
        CaseLists x = Samples.withCases(10, 1);
        for (int k : new int[] {-1, -2, -24, Integer.MIN_VALUE}) {
            Check.illegalArgument("a case is hidden", () -> x.hidden(k));
            Check.illegalArgument("no cases at all", () -> new CaseLists(10).hidden(k));
        }
    }

    private static void provesTheDayItself() {
        Check.sentence("16: (the day itself, if it is not proved on it)");
        CaseLists x = Samples.withCases(10, 4);
        x.result(1, 0, 20, false);
        x.result(2, 0, 20, false);
        x.result(2, 1, 20, true);
        x.result(3, 0, 20, true);
        for (int i = 0; i < 4; i++) {
            int fault = i;
            Check.due("open, failed, differing, one good word", 20, () -> x.proves(fault, 20));
            Check.due("the first day", 0, () -> x.proves(fault, 0));
            Check.due("the last day", LAST_DAY, () -> x.proves(fault, LAST_DAY));
        }
        x.result(3, 1, 21, true);
        Check.due("the day before it is proved", 20, () -> x.proves(3, 20));
    }

    private static void provesTheFirstDay() {
        Check.sentence("16: The first day from one on on which a case is not PROVED");
        CaseLists x = Samples.withCases(10, 1);
        Samples.prove(x, 0, 20);
        Samples.prove(x, 0, 40);
        Check.due("from its first day", 31, () -> x.proves(0, 20));
        Check.due("from its last day", 31, () -> x.proves(0, 30));
        Check.due("from the day behind", 31, () -> x.proves(0, 31));
        Check.due("from between", 39, () -> x.proves(0, 39));
        Check.due("from the second time on", 51, () -> x.proves(0, 40));
        CaseLists y = Samples.withCases(1, 1);
        Samples.prove(y, 0, 0);
        Check.due("from day 0 with the least life", 2, () -> y.proves(0, 0));
    }

    private static void provesUpToEachLifesEnd() {
        Check.sentence("16: The first day from one on on which a case is not PROVED");
        CaseLists x = Samples.withCases(10, 2);
        x.result(0, 0, 20, true);
        x.result(0, 1, 22, true);
        x.result(1, 0, 22, true);
        x.result(1, 1, 20, true);
        Check.due("the result told first ends first", 31, () -> x.proves(0, 22));
        Check.due("the result told last ends first", 31, () -> x.proves(1, 22));
        x.result(0, 2, 23, true);
        x.result(1, 2, 23, true);
        Check.due("the second one ends", 33, () -> x.proves(0, 22));
        Check.due("the first one ends", 33, () -> x.proves(1, 22));
    }

    private static void provesOverTheLifesEnd() {
        Check.sentence("16: The first day from one on on which a case is not PROVED");
        CaseLists x = Samples.withCases(10, 1);
        Samples.prove(x, 0, 20);
        Samples.prove(x, 0, 31);
        Check.due("new words on the day behind the last", 42, () -> x.proves(0, 20));
        CaseLists y = Samples.withCases(10, 1);
        Samples.prove(y, 0, 20);
        Samples.prove(y, 0, 32);
        Check.due("new words a day too late", 31, () -> y.proves(0, 20));
        CaseLists z = Samples.withCases(10, 1);
        Samples.prove(z, 0, 20);
        z.result(0, 2, 25, true);
        z.result(0, 3, 31, true);
        Check.due("others take over", 36, () -> z.proves(0, 20));
    }

    private static void provesUpToATouch() {
        Check.sentence("16: The first day .. on which a case is not PROVED");
        CaseLists x = Samples.withCases(10, 1);
        Samples.prove(x, 0, 20);
        x.change(0, 31);
        Check.due("the touch comes too late", 31, () -> x.proves(0, 20));
        x.change(0, 30);
        Check.due("on the last day", 30, () -> x.proves(0, 20));
        x.change(0, 21);
        Check.due("on the next day", 21, () -> x.proves(0, 20));
        Samples.prove(x, 0, 21);
        Check.due("results of the touch's day do not help", 21, () -> x.proves(0, 20));
        x.change(0, 19);
        Check.due("an earlier touch", 21, () -> x.proves(0, 20));
        x.change(0, 20);
        Check.due("on the day itself", 20, () -> x.proves(0, 20));
    }

    private static void provesUpToAWord() {
        Check.sentence("16: The first day .. on which a case is not PROVED, if nothing more is told");
        CaseLists x = Samples.withCases(10, 1);
        Samples.prove(x, 0, 20);
        x.result(0, 9, 30, false);
        Check.due("on the last day", 30, () -> x.proves(0, 20));
        x.result(0, 0, 21, false);
        Check.due("a prover's own", 21, () -> x.proves(0, 20));
        x.result(0, 0, 21, true);
        Check.due("replaced", 30, () -> x.proves(0, 20));
        x.result(0, 9, 30, true);
        Check.due("replaced too", 32, () -> x.proves(0, 20));
    }

    private static void provesBehindTheLastDay() {
        Check.sentence("16: The first day from one on");
        CaseLists x = Samples.withCases(5000, 1);
        Samples.prove(x, 0, LAST_DAY);
        Check.due("the longest life", LAST_DAY + 5001, () -> x.proves(0, LAST_DAY));
        CaseLists y = Samples.withCases(1, 1);
        Samples.prove(y, 0, LAST_DAY);
        Check.due("the shortest life", LAST_DAY + 2, () -> y.proves(0, LAST_DAY));
        CaseLists z = Samples.withCases(10, 1);
        Samples.prove(z, 0, LAST_DAY - 10);
        Check.due("up to the last day", LAST_DAY + 1, () -> z.proves(0, LAST_DAY - 10));
        z.change(0, LAST_DAY);
        Check.due("touched on the last day", LAST_DAY, () -> z.proves(0, LAST_DAY - 10));
    }

    private static void provesWithAllResults() {
        Check.sentence("16: The first day from one on on which a case is not PROVED");
        CaseLists x = Samples.withCases(5000, 1);
        for (int i = 0; i < 32; i++) {
            x.result(0, i % 2, i * 2500, true);
        }
        Check.due("from the second to the last but one", 30 * 2500 + 5001, () -> x.proves(0, 2500));
        Check.due("from the first", 0, () -> x.proves(0, 0));
        CaseLists y = Samples.withCases(1, 1);
        for (int i = 0; i < 32; i++) {
            y.result(0, i % 10, i, true);
        }
        Check.due("each day another person's", 32, () -> y.proves(0, 1));
    }

    private static void touchedUpToTheDay() {
        Check.sentence("17: The latest day, up to one, on which a case was touched");
        CaseLists x = Samples.withCases(10, 1);
        x.change(0, 20);
        x.change(0, 30);
        Check.due("on its day", 20, () -> x.touched(0, 20));
        Check.due("the day before the next", 20, () -> x.touched(0, 29));
        Check.due("on the next", 30, () -> x.touched(0, 30));
        Check.due("the last day", 30, () -> x.touched(0, LAST_DAY));
    }

    private static void touchedNone() {
        Check.sentence("17: NONE");
        CaseLists x = Samples.withCases(10, 2);
        Check.due("never", NONE, () -> x.touched(0, LAST_DAY));
        x.change(0, 20);
        x.change(2, 5);
        Check.due("not yet", NONE, () -> x.touched(0, 19));
        Check.due("the other case", NONE, () -> x.touched(1, LAST_DAY));
        Check.illegalArgument("refused", () -> x.change(1, LAST_DAY + 1));
        Check.illegalArgument("refused too", () -> x.change(30, 20));
        Check.due("the other case still", NONE, () -> x.touched(1, LAST_DAY));
    }

    private static void touchedAtTheEdgeDays() {
        Check.sentence("17: The latest day, up to one, on which a case was touched");
        CaseLists x = Samples.withCases(10, 24);
        x.change(0, 0);
        x.change(23, LAST_DAY);
        Check.due("the first day", 0, () -> x.touched(0, 0));
        Check.due("case 0, the last day", 0, () -> x.touched(0, LAST_DAY));
        Check.due("the last day", LAST_DAY, () -> x.touched(23, LAST_DAY));
        Check.due("the last day but one", NONE, () -> x.touched(23, LAST_DAY - 1));
        Check.due("the case before", NONE, () -> x.touched(22, LAST_DAY));
    }

    private static void touchedTheLatest() {
        Check.sentence("17: The latest day");
        CaseLists x = Samples.withCases(10, 2);
        x.change(0, 30);
        x.change(0, 10);
        x.change(0, 20);
        x.change(1, 30);
        Check.due("not the one told last", 30, () -> x.touched(0, 40));
        Check.due("the one between", 20, () -> x.touched(0, 29));
        Check.due("two cases on one day", 30, () -> x.touched(1, 30));
        x.change(0, 30);
        Check.due("twice on one day", 30, () -> x.touched(0, 30));
        Check.due("once on it", 30, () -> x.touched(1, 30));
    }

    private static void askingChangesNothing() {
        Check.sentence("the answers and state changes described above");
        CaseLists x = Samples.full();
        for (int act = 0; act < 8; act++) {
            x.from(act);
            x.hidden(act);
            x.state(act, 1001);
            x.proves(act, 1001);
            x.touched(act, 1001);
            x.listed(act % 4, 1001, 0);
        }
        Check.due("all that can be asked", true, Arrays.equals(Samples.asked(Samples.full()), Samples.asked(x)));
    }
}
