/** Promises 1 to 7: each sentence that names a boundary. */
public final class TellingEdgesTest {
    private static final int NONE = CaseLists.NONE;
    private static final int LAST_DAY = 100000;

    public static void main(String[] args) {
        noCases();
        noActs();
        lifeBelowOne();
        lifeAboveMost();
        lifeWithin();
        faultOfOneOrOfTwo();
        faultThatWasThere();
        faultOfOneTwice();
        faultsAreFull();
        actsAreNumbered();
        actsAreFull();
        showsOrDoesNot();
        showsItsOwnCasesAlone();
        wayWas();
        wayOfOnePlace();
        changeCounts();
        changeCountsWhatIsThere();
        resultsThatAreNotReplaced();
        resultsAreFull();
        Check.end();
    }

    private static void noCases() {
        Check.sentence("1: No cases");
        CaseLists x = new CaseLists(10);
        Check.due("hidden", NONE, () -> x.hidden(0));
        for (int s = 0; s < 4; s++) {
            int state = s;
            Check.due("listed on the first day", NONE, () -> x.listed(state, 0, 0));
            Check.due("listed on the last day", NONE, () -> x.listed(state, LAST_DAY, 0));
        }
        for (int point = 0; point < 30; point++) {
            int p = point;
            Check.due("change", 0, () -> x.change(p, 0));
        }
        Check.illegalArgument("state", () -> x.state(0, 0));
        Check.illegalArgument("result", () -> x.result(0, 0, 0, true));
        x.act(0, 1);
        Check.illegalArgument("shows", () -> x.shows(0, 0, true) ? 1 : 0);
        Check.due("the first one's number", 0, () -> x.fault(29, NONE));
    }

    private static void noActs() {
        Check.sentence("1: no acts");
        CaseLists x = Samples.withCases(10, 1);
        Check.illegalArgument("from", () -> x.from(0));
        Check.illegalArgument("shows", () -> x.shows(0, 0, true) ? 1 : 0);
        Check.due("hidden", 0, () -> x.hidden(0));
        Check.due("plan", 0, () -> x.plan(0));
        Check.due("the first one's number", 0, () -> x.act(9, 10000));
    }

    private static void dueLife(int told, int life) {
        CaseLists x = Samples.withCases(told, 1);
        Samples.prove(x, 0, 30);
        Check.due("life " + told + ": its last day", Samples.PROVED, () -> x.state(0, 30 + life));
        Check.due("life " + told + ": the day behind", Samples.OPEN, () -> x.state(0, 31 + life));
        Check.due("life " + told + ": proves", 31 + life, () -> x.proves(0, 30));
    }

    private static void lifeBelowOne() {
        Check.sentence("1: LIFE is so many days (below 1 counts as 1");
        for (int told : new int[] {0, -1, -2, -5000, -65535, Integer.MIN_VALUE + 7, Integer.MIN_VALUE}) {
            dueLife(told, 1);
        }
        dueLife(1, 1);
        dueLife(2, 2);
    }

    private static void lifeAboveMost() {
        Check.sentence("1: above 5000 as 5000");
        for (int told : new int[] {5001, 5002, 65537, 65536 + 4000, LAST_DAY, Integer.MAX_VALUE - 1, Integer.MAX_VALUE}) {
            dueLife(told, 5000);
        }
        dueLife(5000, 5000);
        dueLife(4999, 4999);
    }

    private static void lifeWithin() {
        Check.sentence("1: LIFE is so many days");
        for (int told : new int[] {3, 127, 128, 255, 256, 4000}) {
            dueLife(told, told);
        }
    }

    private static void faultOfOneOrOfTwo() {
        Check.sentence("2: A case of a point, or of two (other is not NONE)");
        CaseLists x = new CaseLists(10);
        Check.due("of point 0", 0, () -> x.fault(0, NONE));
        Check.due("of points 0 and 29", 1, () -> x.fault(0, 29));
        Check.due("of points 28 and 0", 2, () -> x.fault(28, 0));
        Check.due("of point 29", 3, () -> x.fault(29, NONE));
        Check.due("with point 0", 3, () -> x.change(0, 1));
        Check.due("with point 29", 2, () -> x.change(29, 1));
        Check.due("with point 28", 1, () -> x.change(28, 1));
    }

    private static void faultThatWasThere() {
        Check.sentence("2: its number, or that of the case with just these points that was there");
        CaseLists x = new CaseLists(10);
        x.fault(1, 2);
        Check.due("one of its points", 1, () -> x.fault(1, NONE));
        Check.due("the other one", 2, () -> x.fault(2, NONE));
        Check.due("both", 0, () -> x.fault(1, 2));
        Check.due("both, the other way round", 0, () -> x.fault(2, 1));
        Check.due("one of two and another", 3, () -> x.fault(1, 3));
        Check.due("another and one of two", 4, () -> x.fault(3, 2));
        Check.due("one point again", 2, () -> x.fault(2, NONE));
        Check.due("the next new one", 5, () -> x.fault(3, NONE));
        x.result(0, 1, 5, true);
        x.change(3, 6);
        Check.due("with all that was told", 0, () -> x.fault(2, 1));
        Check.due("its result stays", 1, () -> x.word(0, 1, 5));
        Check.due("the last one again", 5, () -> x.fault(3, NONE));
        Check.due("its touch stays", 6, () -> x.touched(5, 6));
    }

    private static void faultOfOneTwice() {
        Check.sentence("2: Illegal argument: also if both are one");
        Twins small = new Twins(Samples::small);
        for (int p = 0; p < 30; p++) {
            int point = p;
            small.illegalArgument("points " + p, x -> x.fault(point, point));
        }
        small.illegalArgument("both are NONE", x -> x.fault(NONE, NONE));
    }

    private static void faultsAreFull() {
        Check.sentence("2: illegal state: there are 24");
        CaseLists x = Samples.withCases(10, 23);
        Check.due("the 24th", 23, () -> x.fault(28, 29));
        Check.illegalState("the 25th, of one", () -> x.fault(28, NONE));
        Check.illegalState("the 25th, of two", () -> x.fault(27, 29));
        Check.illegalState("of points that are there alone", () -> x.fault(0, 1));
        Check.illegalArgument("case 24", () -> x.state(24, 0));
        for (int i = 0; i < 23; i++) {
            int n = i;
            Check.due("one that was there", n, () -> x.fault(n, NONE));
        }
        Check.due("the one of two that was there", 23, () -> x.fault(29, 28));
    }

    private static void actsAreNumbered() {
        Check.sentence("3: An act: its number");
        CaseLists x = new CaseLists(10);
        Check.due("the first", 0, () -> x.act(5, 5));
        Check.due("just such a one is another", 1, () -> x.act(5, 5));
        Check.illegalArgument("a refused one", () -> x.act(5, 0));
        Check.due("it took no number", 2, () -> x.act(5, 1));
    }

    private static void actsAreFull() {
        Check.sentence("3: illegal state: there are 8");
        CaseLists x = new CaseLists(10);
        for (int i = 0; i < 7; i++) {
            x.act(0, 1);
        }
        Check.due("the 8th", 7, () -> x.act(9, 10000));
        Check.illegalState("the 9th", () -> x.act(9, 10000));
        Check.illegalState("the 9th again", () -> x.act(0, 1));
        Check.illegalArgument("act 8", () -> x.from(8));
    }

    private static void showsOrDoesNot() {
        Check.sentence("4: An act shows a case, or does not: whether it did");
        CaseLists x = Samples.withCases(10, 24);
        for (int i = 0; i < 8; i++) {
            x.act(0, 1);
        }
        for (int[] row : new int[][] {{0, 0}, {7, 23}, {0, 23}, {7, 0}}) {
            Check.due("off at first", 0, () -> x.shows(row[0], row[1], false) ? 1 : 0);
            Check.due("off", 0, () -> x.shows(row[0], row[1], true) ? 1 : 0);
            Check.due("on", 1, () -> x.shows(row[0], row[1], true) ? 1 : 0);
            Check.due("on still", 1, () -> x.shows(row[0], row[1], false) ? 1 : 0);
            Check.due("off again", 0, () -> x.shows(row[0], row[1], false) ? 1 : 0);
        }
        Check.due("none is shown", 23, () -> x.hidden(23));
    }

    private static void showsItsOwnCasesAlone() {
        Check.sentence("4: An act shows a case, or does not: whether it did");
        CaseLists x = Samples.withCases(10, 24);
        for (int i = 0; i < 8; i++) {
            x.act(0, 1);
        }
        for (int a = 0; a < 8; a++) {
            for (int f = a; f < 24; f += 8) {
                x.shows(a, f, true);
            }
        }
        for (int a = 0; a < 8; a++) {
            for (int f = 0; f < 24; f++) {
                int act = a;
                int fault = f;
                Check.due("act " + a + ", case " + f, f % 8 == a ? 1 : 0, () -> x.shows(act, fault, false) ? 1 : 0);
            }
        }
    }

    private static void wayWas() {
        Check.sentence("5: A way: how long it was");
        CaseLists x = new CaseLists(10);
        Check.due("at first", 0, () -> x.way(0, 9, 10000));
        Check.due("the longest", 10000, () -> x.way(0, 9, 0));
        Check.due("the shortest", 0, () -> x.way(9, 0, 1));
        Check.illegalArgument("too long", () -> x.way(0, 9, 10001));
        Check.illegalArgument("too short", () -> x.way(0, 9, -1));
        Check.due("as before the refused ones", 1, () -> x.way(0, 9, 2));
    }

    private static void wayOfOnePlace() {
        Check.sentence("5: Illegal argument: also if both places are one");
        Twins small = new Twins(Samples::small);
        for (int p = 0; p < 10; p++) {
            int place = p;
            small.illegalArgument("place " + p, x -> x.way(place, place, 0));
            small.illegalArgument("place " + p, x -> x.way(place, place, 10000));
        }
    }

    private static void changeCounts() {
        Check.sentence("6: A CHANGE: how many cases it touches");
        CaseLists x = new CaseLists(10);
        Check.due("no cases", 0, () -> x.change(0, 0));
        x.fault(0, 1);
        Check.due("one, by its first point", 1, () -> x.change(0, 0));
        Check.due("one, by its second point", 1, () -> x.change(1, LAST_DAY));
        Check.due("none has the point", 0, () -> x.change(2, 0));
        Check.due("the same change again", 1, () -> x.change(0, 0));
        for (int i = 2; i < 25; i++) {
            x.fault(i, 0);
        }
        Check.due("all 24", 24, () -> x.change(0, 5));
        Check.due("the last case alone", 1, () -> x.change(24, 5));
    }

    private static void changeCountsWhatIsThere() {
        Check.sentence("6: A CHANGE: how many cases it touches");
        CaseLists x = Samples.withCases(10, 1);
        Check.due("before the case comes", 0, () -> x.change(1, 5));
        x.fault(1, NONE);
        Check.due("it did not touch the case", NONE, () -> x.touched(1, 5));
        Check.due("behind it", 1, () -> x.change(1, 5));
        Check.due("now it did", 5, () -> x.touched(1, 5));
    }

    private static void resultsThatAreNotReplaced() {
        Check.sentence("7: how many results the case has (all that were told and are not replaced)");
        CaseLists x = Samples.withCases(1, 2);
        Check.due("the first", 1, () -> x.result(0, 0, 0, true));
        Check.due("a person more", 2, () -> x.result(0, 9, 0, true));
        Check.due("a day more", 3, () -> x.result(0, 0, LAST_DAY, true));
        Check.due("replaced", 3, () -> x.result(0, 9, 0, true));
        Check.due("replaced by another word", 3, () -> x.result(0, 9, 0, false));
        Check.due("another case", 1, () -> x.result(1, 9, 0, false));
        x.change(0, 50);
        Check.due("those that do not count are there", 4, () -> x.result(0, 5, 60, true));
        Check.due("person 1, day 0 is not person 0, day 1", 5, () -> x.result(0, 1, 0, true));
        Check.due("nor person 0, day 10", 6, () -> x.result(0, 0, 10, true));
        Check.due("nor person 0, day 1", 7, () -> x.result(0, 0, 1, true));
    }

    private static void resultsAreFull() {
        Check.sentence("7: illegal state: it would be the 33rd of the case");
        CaseLists x = Samples.withCases(5000, 2);
        for (int i = 0; i < 31; i++) {
            x.result(0, i % 10, i / 10, false);
        }
        Check.due("the 32nd", 32, () -> x.result(0, 1, 3, false));
        Check.illegalState("the 33rd, a new person's day", () -> x.result(0, 2, 3, true));
        Check.illegalState("the 33rd, a new day", () -> x.result(0, 0, LAST_DAY, true));
        Check.due("it was not told", NONE, () -> x.word(0, 0, LAST_DAY));
        for (int i = 0; i < 32; i++) {
            int n = i;
            Check.due("each can be replaced", 32, () -> x.result(0, n % 10, n / 10, true));
            Check.due("and is", 1, () -> x.word(0, n % 10, n / 10));
        }
        Check.due("another case is not full", 1, () -> x.result(1, 2, 3, true));
        x.change(0, 10);
        Check.illegalState("what does not count any more is there still", () -> x.result(0, 2, 20, true));
    }
}
