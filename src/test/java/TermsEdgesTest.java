/** The sentences of "What it is" and "Terms" that name a boundary. */
public final class TermsEdgesTest {
    private static final int NONE = CaseLists.NONE;
    private static final int LAST_DAY = 100000;

    public static void main(String[] args) {
        touchesUpToTheLastCall();
        resultsUpToTheLastCall();
        casesAsTheyCome();
        actsAsTheyCome();
        wayAtFirst();
        wayBack();
        wayToItself();
        laterResultTakesThePlace();
        changeTouchesAllCasesWithThePoint();
        changeTouchesOnThatDay();
        countsUpToTheDay();
        countsForTheLife();
        countsForTheLifeAtTheFirstDay();
        countsForTheLifeAtTheLastDay();
        countsBehindTheTouch();
        countsBehindTheLatestTouchUpToTheDay();
        countsWithoutATouch();
        wordOfTheLatestDay();
        wordOfNobody();
        provedByTwoOrMore();
        provedIfAllAreGood();
        differsByOneOfEach();
        failedIfAllAreNotGood();
        elseOpen();
        illegalArgumentGoesFirst();
        refusedCallsChangeNothing();
        Check.end();
    }

    private static void touchesUpToTheLastCall() {
        Check.sentence("An object is used for at most 512 calls after it has been made");
        for (int asked = 0; asked < 510; asked += 509) {
            CaseLists x = Samples.withCases(10, 1);
            for (int i = 0; i < 510; i++) {
                x.change(0, 3 * i);
            }
            int day = 3 * asked;
            Check.due("touched is the 512th call", day, () -> x.touched(0, day + 2));
        }
    }

    private static void resultsUpToTheLastCall() {
        Check.sentence("An object is used for at most 512 calls after it has been made");
        CaseLists x = Samples.withCases(5000, 15);
        for (int fault = 0; fault < 15; fault++) {
            for (int i = 0; i < 32; i++) {
                x.result(fault, i % 10, i / 10, fault != 7);
            }
        }
        Check.due("call 496", 1, () -> x.word(14, 9, 2));
        Check.due("call 497", 7, () -> x.listed(Samples.FAILED, 3, 0));
        for (int i = 0; i < 14; i++) {
            x.plan(i);
        }
        Check.due("call 512", 5003 + 1, () -> x.proves(0, 3));
    }

    private static void casesAsTheyCome() {
        Check.sentence("CASES are 0 .. 23 as they come, each of one point, or of two.");
        CaseLists x = new CaseLists(10);
        for (int i = 0; i < 12; i++) {
            int n = i;
            Check.due("of two points", 2 * n, () -> x.fault(29 - n, n));
            Check.due("of one point", 2 * n + 1, () -> x.fault(29 - n, NONE));
        }
        Check.due("a case 23", Samples.OPEN, () -> x.state(23, 0));
        Check.illegalArgument("no case 24", () -> x.state(24, 0));
    }

    private static void actsAsTheyCome() {
        Check.sentence("ACTS are 0 .. 7 as they come, each at a PLACE 0 .. 9, with SECONDS (1 .. 10000)");
        CaseLists x = new CaseLists(10);
        for (int i = 0; i < 8; i++) {
            int n = i;
            Check.due("an act", n, () -> x.act(9 - n, n % 2 == 0 ? 1 : 10000));
        }
        Check.due("an act 7", NONE, () -> x.from(7));
        Check.illegalArgument("no act 8", () -> x.from(8));
    }

    private static void wayAtFirst() {
        Check.sentence("A WAY between two places takes seconds (0 .. 10000; 0 at first");
        CaseLists x = new CaseLists(10);
        for (int p = 0; p < 10; p++) {
            for (int q = 0; q < p; q++) {
                int place = p;
                int other = q;
                Check.due("way " + p + " " + q, 0, () -> x.way(place, other, 10000));
            }
        }
        CaseLists y = Samples.withCases(10, 2);
        Samples.addAct(y, 0, 1, 0);
        Samples.addAct(y, 9, 1, 1);
        Check.due("a plan over a way that nobody told", 2, () -> y.plan(0));
        Check.due("its seconds", 2, () -> y.seconds());
    }

    private static void wayBack() {
        Check.sentence("as long there as back");
        CaseLists x = new CaseLists(10);
        for (int p = 0; p < 10; p++) {
            for (int q = 0; q < p; q++) {
                x.way(p, q, 10 * p + q);
            }
        }
        for (int p = 0; p < 10; p++) {
            for (int q = 0; q < p; q++) {
                int place = p;
                int other = q;
                Check.due("back " + q + " " + p, 10 * p + q, () -> x.way(other, place, 5000 + 10 * place + other));
            }
        }
        for (int p = 0; p < 10; p++) {
            for (int q = 0; q < p; q++) {
                int place = p;
                int other = q;
                Check.due("there " + p + " " + q, 5000 + 10 * p + q, () -> x.way(place, other, 0));
            }
        }
        CaseLists y = Samples.withCases(10, 2);
        Samples.addAct(y, 3, 1, 0);
        Samples.addAct(y, 8, 1, 1);
        y.way(8, 3, 50);
        Check.due("from one place", 52, () -> y.from(0));
        Check.due("from the other", 52, () -> y.from(1));
    }

    private static void wayToItself() {
        Check.sentence("from a place to itself 0");
        CaseLists x = Samples.withCases(10, 2);
        Samples.addAct(x, 4, 1, 0);
        Samples.addAct(x, 4, 1, 1);
        for (int p = 0; p < 10; p++) {
            for (int q = 0; q < p; q++) {
                x.way(p, q, 10000);
            }
        }
        Check.due("two acts at one place", 2, () -> x.plan(0));
        Check.due("their seconds", 2, () -> x.seconds());
        Check.illegalArgument("it can't be told", () -> x.way(4, 4, 7));
        Check.due("nor has it been", 2, () -> x.from(1));
    }

    private static void laterResultTakesThePlace() {
        Check.sentence("a later told one of the same person for the same day takes its place");
        CaseLists x = Samples.withCases(10, 2);
        x.result(0, 0, 5, true);
        x.result(0, 9, 5, true);
        x.result(0, 0, 6, true);
        x.result(1, 0, 5, true);
        Check.due("it takes its place", 3, () -> x.result(0, 0, 5, false));
        Check.due("the day's word", 0, () -> x.word(0, 0, 5));
        Check.due("another person's", 1, () -> x.word(0, 9, 5));
        Check.due("another day's", 1, () -> x.word(0, 0, 6));
        Check.due("another case's", 1, () -> x.word(1, 0, 5));
        Check.due("once more", 3, () -> x.result(0, 0, 5, true));
        Check.due("the day's word again", 1, () -> x.word(0, 0, 5));
    }

    private static void changeTouchesAllCasesWithThePoint() {
        Check.sentence("A CHANGE of a point on a day TOUCHES all cases with that point");
        CaseLists x = new CaseLists(10);
        x.fault(29, 0);
        for (int i = 1; i < 23; i++) {
            x.fault(0, i);
        }
        x.fault(0, NONE);
        Check.due("all 24", 24, () -> x.change(0, 7));
        Check.due("case 0, by its second point", 7, () -> x.touched(0, 7));
        Check.due("case 23, by its only point", 7, () -> x.touched(23, 7));
        Check.due("one", 1, () -> x.change(29, 8));
        Check.due("case 0, by its first point", 8, () -> x.touched(0, 8));
        Check.due("case 1 lacks the point", 7, () -> x.touched(1, 8));
        Check.due("none", 0, () -> x.change(23, 9));
    }

    private static void changeTouchesOnThatDay() {
        Check.sentence("TOUCHES all cases with that point: on that day.");
        CaseLists x = Samples.withCases(10, 1);
        x.change(0, 7);
        Check.due("the day before", NONE, () -> x.touched(0, 6));
        Check.due("that day", 7, () -> x.touched(0, 7));
        Check.due("the day behind", 7, () -> x.touched(0, 8));
    }

    private static void countsUpToTheDay() {
        Check.sentence("a result COUNTS if its day is D or before");
        CaseLists x = Samples.withCases(10, 1);
        x.result(0, 3, 50, true);
        Check.due("D is the day before", NONE, () -> x.word(0, 3, 49));
        Check.due("D is its day", 1, () -> x.word(0, 3, 50));
        Check.due("D is the day behind", 1, () -> x.word(0, 3, 51));
    }

    private static void countsForTheLife() {
        Check.sentence("not before D - LIFE");
        for (int life : new int[] {1, 2, 10, 4999, 5000}) {
            CaseLists x = Samples.withCases(life, 1);
            x.result(0, 3, 50, true);
            Check.due("D is the day before LIFE's end " + life, 1, () -> x.word(0, 3, 50 + life - 1));
            Check.due("its day is D - LIFE " + life, 1, () -> x.word(0, 3, 50 + life));
            Check.due("its day is before D - LIFE " + life, NONE, () -> x.word(0, 3, 50 + life + 1));
        }
    }

    private static void countsForTheLifeAtTheFirstDay() {
        Check.sentence("not before D - LIFE");
        CaseLists x = Samples.withCases(5000, 1);
        Samples.prove(x, 0, 0);
        Check.due("D - LIFE lies far before day 0", Samples.PROVED, () -> x.state(0, 0));
        Check.due("D - LIFE is day -1", Samples.PROVED, () -> x.state(0, 4999));
        Check.due("D - LIFE is day 0", Samples.PROVED, () -> x.state(0, 5000));
        Check.due("D - LIFE is day 1", Samples.OPEN, () -> x.state(0, 5001));
    }

    private static void countsForTheLifeAtTheLastDay() {
        Check.sentence("not before D - LIFE");
        CaseLists x = Samples.withCases(5000, 2);
        Samples.prove(x, 0, 95000);
        Samples.prove(x, 1, 94999);
        Check.due("on D - LIFE", Samples.PROVED, () -> x.state(0, LAST_DAY));
        Check.due("before it", Samples.OPEN, () -> x.state(1, LAST_DAY));
    }

    private static void countsBehindTheTouch() {
        Check.sentence("and behind the latest day, up to D, on which its case was touched");
        CaseLists x = Samples.withCases(10, 1);
        x.result(0, 1, 49, true);
        x.result(0, 2, 50, true);
        x.result(0, 3, 51, true);
        x.change(0, 50);
        Check.due("a result before the touch", NONE, () -> x.word(0, 1, 51));
        Check.due("a result of the touch's day", NONE, () -> x.word(0, 2, 51));
        Check.due("the same, on the touch's day", NONE, () -> x.word(0, 2, 50));
        Check.due("a result behind the touch", 1, () -> x.word(0, 3, 51));
        Check.due("told behind the change, for its day", 3, () -> x.result(0, 2, 50, true));
        Check.due("it does not count either", NONE, () -> x.word(0, 2, 52));
    }

    private static void countsBehindTheLatestTouchUpToTheDay() {
        Check.sentence("the latest day, up to D, on which its case was touched");
        CaseLists x = Samples.withCases(100, 1);
        x.result(0, 1, 45, true);
        x.change(0, 50);
        x.change(0, 40);
        Check.due("the touch of day 50 lies behind D", 1, () -> x.word(0, 1, 49));
        Check.due("up to D, so D as well", NONE, () -> x.word(0, 1, 50));
        x.result(0, 1, 50, false);
        x.result(0, 1, 51, true);
        Check.due("the latest, not the one told last", NONE, () -> x.word(0, 1, 50));
        Check.due("behind the latest", 1, () -> x.word(0, 1, 51));
    }

    private static void countsWithoutATouch() {
        Check.sentence("(if it was)");
        CaseLists x = Samples.withCases(10, 2);
        x.result(0, 1, 0, true);
        x.result(1, 1, 0, true);
        x.change(1, 0);
        Check.due("a result of day 0, never touched", 1, () -> x.word(0, 1, 0));
        Check.due("a result of day 0, touched on day 0", NONE, () -> x.word(1, 1, 0));
    }

    private static void wordOfTheLatestDay() {
        Check.sentence("The WORD of a person for a case is its counting result of the latest day");
        CaseLists x = Samples.withCases(10, 1);
        x.result(0, 1, 22, false);
        x.result(0, 1, 21, true);
        x.result(0, 1, 20, false);
        x.result(0, 2, 23, true);
        Check.due("day 20", 0, () -> x.word(0, 1, 20));
        Check.due("day 21", 1, () -> x.word(0, 1, 21));
        Check.due("day 22", 0, () -> x.word(0, 1, 22));
        Check.due("day 23", 0, () -> x.word(0, 1, 23));
    }

    private static void wordOfNobody() {
        Check.sentence("a person without one has none");
        CaseLists x = Samples.withCases(10, 2);
        x.result(0, 1, 20, false);
        x.result(1, 2, 20, true);
        Check.due("no result", NONE, () -> x.word(0, 2, 20));
        Check.due("none yet", NONE, () -> x.word(0, 1, 19));
        Check.due("none any more", NONE, () -> x.word(0, 1, 31));
    }

    private static void provedByTwoOrMore() {
        Check.sentence("PROVED if two persons or more have words for it");
        CaseLists x = Samples.withCases(10, 1);
        Check.due("nobody", Samples.OPEN, () -> x.state(0, 20));
        for (int i = 0; i < 10; i++) {
            x.result(0, 9 - i, 20, true);
            int due = i == 0 ? Samples.OPEN : Samples.PROVED;
            Check.due("persons: " + (i + 1), due, () -> x.state(0, 20));
        }
        CaseLists y = Samples.withCases(10, 1);
        y.result(0, 4, 20, true);
        y.result(0, 4, 21, true);
        y.result(0, 4, 22, true);
        Check.due("one person's three results", Samples.OPEN, () -> y.state(0, 22));
    }

    private static void provedIfAllAreGood() {
        Check.sentence("and all words are good");
        for (int person = 0; person < 10; person++) {
            CaseLists x = Samples.withCases(10, 1);
            for (int i = 0; i < 10; i++) {
                x.result(0, i, 20, i != person);
            }
            Check.due("all but person " + person, Samples.DIFFERS, () -> x.state(0, 20));
            x.result(0, person, 21, true);
            Check.due("the word is good by now", Samples.PROVED, () -> x.state(0, 21));
            Check.due("it was not", Samples.DIFFERS, () -> x.state(0, 20));
        }
    }

    private static void differsByOneOfEach() {
        Check.sentence("it DIFFERS if one person's word is good and another's is not");
        CaseLists x = Samples.withCases(10, 1);
        x.result(0, 0, 20, true);
        x.result(0, 9, 20, false);
        Check.due("one of each", Samples.DIFFERS, () -> x.state(0, 20));
        CaseLists y = Samples.withCases(10, 1);
        y.result(0, 0, 20, true);
        y.result(0, 0, 21, false);
        Check.due("one person's words do not differ", Samples.FAILED, () -> y.state(0, 21));
    }

    private static void failedIfAllAreNotGood() {
        Check.sentence("it FAILED if all words there are are not good, and there is one");
        CaseLists x = Samples.withCases(10, 1);
        Check.due("there is none", Samples.OPEN, () -> x.state(0, 20));
        for (int i = 0; i < 10; i++) {
            x.result(0, i, 20, false);
            Check.due("persons: " + (i + 1), Samples.FAILED, () -> x.state(0, 20));
        }
        x.result(0, 5, 20, true);
        Check.due("one is good", Samples.DIFFERS, () -> x.state(0, 20));
    }

    private static void elseOpen() {
        Check.sentence("else it is OPEN");
        CaseLists x = Samples.withCases(10, 1);
        Check.due("no words", Samples.OPEN, () -> x.state(0, 0));
        x.result(0, 9, 20, true);
        Check.due("one good word", Samples.OPEN, () -> x.state(0, 20));
        Check.due("its last day", Samples.OPEN, () -> x.state(0, 30));
        x.result(0, 8, 19, false);
        Check.due("not before both count", Samples.FAILED, () -> x.state(0, 19));
        Check.due("both count", Samples.DIFFERS, () -> x.state(0, 29));
        Check.due("only the good word counts", Samples.OPEN, () -> x.state(0, 30));
    }

    private static void illegalArgumentGoesFirst() {
        Check.sentence("Of several exceptions the one named first is thrown");
        Twins full = new Twins(Samples::full);
        full.illegalArgument("fault: point", x -> x.fault(30, NONE));
        full.illegalArgument("fault: other", x -> x.fault(24, 30));
        full.illegalArgument("fault: below NONE", x -> x.fault(24, -2));
        full.illegalArgument("fault: both are one", x -> x.fault(24, 24));
        full.illegalArgument("act: place", x -> x.act(10, 1));
        full.illegalArgument("act: seconds", x -> x.act(0, 0));
        full.illegalArgument("act: more seconds", x -> x.act(0, 10001));
        full.illegalArgument("result: person", x -> x.result(0, 10, 2000, true));
        full.illegalArgument("result: day", x -> x.result(0, 0, 100001, true));
        full.illegalArgument("result: fault", x -> x.result(24, 0, 2000, true));
    }

    private static void refusedCallsChangeNothing() {
        Check.sentence("a call that throws changes nothing");
        Twins full = new Twins(Samples::full);
        full.illegalState("fault", x -> x.fault(29, NONE));
        full.illegalState("fault of two", x -> x.fault(0, 1));
        full.illegalState("act", x -> x.act(0, 1));
        full.illegalState("result", x -> x.result(0, 0, 1001 + 4999, true));
        full.illegalState("result of a day before", x -> x.result(0, 0, 999, false));
        full.illegalState("result of an earlier day's person", x -> x.result(0, 9, 1003, false));
    }
}
