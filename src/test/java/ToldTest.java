/** Promises 12 to 17: what is told. */
public final class ToldTest {
    private static final int NONE = CaseLists.NONE;
    private static final int OPEN = 0;
    private static final int FAILED = 1;
    private static final int DIFFERS = 2;
    private static final int PROVED = 3;

    public static void main(String[] args) {
        states();
        words();
        touchesEndResults();
        lists();
        hiddenCases();
        provesUntilTheLifeEnds();
        provesUntilSomethingElse();
        latestTouch();
        wrongArguments();
        Check.end();
    }

    private static CaseLists withCase(int life) {
        CaseLists x = new CaseLists(life);
        x.fault(3, 4);
        return x;
    }

    private static void states() {
        CaseLists x = withCase(10);
        Check.due("12 nothing told", OPEN, () -> x.state(0, 20));
        x.result(0, 0, 20, true);
        Check.due("12 one good word", OPEN, () -> x.state(0, 20));
        x.result(0, 0, 21, true);
        Check.due("12 two results of one person", OPEN, () -> x.state(0, 21));
        x.result(0, 9, 21, true);
        Check.due("12 two good words", PROVED, () -> x.state(0, 21));
        Check.due("12 the day before", OPEN, () -> x.state(0, 20));
        x.result(0, 5, 22, false);
        Check.due("12 one is not good", DIFFERS, () -> x.state(0, 22));
        x.result(0, 0, 23, false);
        x.result(0, 9, 23, false);
        Check.due("12 none is good", FAILED, () -> x.state(0, 23));
        Check.due("12 the life's last day", FAILED, () -> x.state(0, 33));
        Check.due("12 behind it", OPEN, () -> x.state(0, 34));
        CaseLists y = withCase(10);
        y.result(0, 0, 20, false);
        Check.due("12 one word, not good", FAILED, () -> y.state(0, 20));
    }

    private static void words() {
        CaseLists x = withCase(2);
        Check.due("13 nothing told", NONE, () -> x.word(0, 0, 5));
        x.result(0, 0, 7, false);
        x.result(0, 0, 5, true);
        Check.due("13 before", NONE, () -> x.word(0, 0, 4));
        Check.due("13 on the day", 1, () -> x.word(0, 0, 5));
        Check.due("13 still", 1, () -> x.word(0, 0, 6));
        Check.due("13 the latest day, not the last told", 0, () -> x.word(0, 0, 7));
        Check.due("13 the life's last day", 0, () -> x.word(0, 0, 9));
        Check.due("13 behind it", NONE, () -> x.word(0, 0, 10));
        Check.due("13 another person", NONE, () -> x.word(0, 1, 7));
        x.result(0, 0, 7, true);
        Check.due("13 replaced", 1, () -> x.word(0, 0, 7));
    }

    private static void touchesEndResults() {
        CaseLists x = withCase(100);
        x.result(0, 0, 10, true);
        x.result(0, 1, 12, true);
        x.change(4, 11);
        Check.due("13 before the touch", 1, () -> x.word(0, 0, 10));
        Check.due("13 on its day", NONE, () -> x.word(0, 0, 11));
        Check.due("13 behind the touch", 1, () -> x.word(0, 1, 12));
        x.change(3, 12);
        Check.due("13 a result of the touch's own day", NONE, () -> x.word(0, 1, 12));
        x.change(5, 13);
        x.result(0, 0, 13, true);
        Check.due("13 another point", 1, () -> x.word(0, 0, 13));
        x.change(3, 0);
        Check.due("13 an earlier touch told later", 1, () -> x.word(0, 0, 10));
    }

    private static void lists() {
        CaseLists x = new CaseLists(10);
        for (int i = 0; i < 5; i++) {
            x.fault(i, NONE);
        }
        x.result(1, 0, 5, false);
        x.result(4, 0, 5, false);
        x.result(2, 0, 5, false);
        x.result(2, 1, 5, true);
        x.result(3, 0, 5, true);
        x.result(3, 1, 5, true);
        Check.due("14 open", 0, () -> x.listed(OPEN, 5, 0));
        Check.due("14 one open", NONE, () -> x.listed(OPEN, 5, 1));
        Check.due("14 failed", 1, () -> x.listed(FAILED, 5, 0));
        Check.due("14 failed", 4, () -> x.listed(FAILED, 5, 1));
        Check.due("14 two failed", NONE, () -> x.listed(FAILED, 5, 2));
        Check.due("14 differs", 2, () -> x.listed(DIFFERS, 5, 0));
        Check.due("14 proved", 3, () -> x.listed(PROVED, 5, 0));
        Check.due("14 far behind", NONE, () -> x.listed(PROVED, 5, Integer.MAX_VALUE));
        Check.due("14 the day before", 4, () -> x.listed(OPEN, 4, 4));
    }

    private static void hiddenCases() {
        CaseLists x = new CaseLists(10);
        for (int i = 0; i < 4; i++) {
            x.fault(i, NONE);
        }
        x.act(0, 1);
        x.act(0, 1);
        x.shows(0, 1, true);
        x.shows(1, 1, true);
        x.shows(1, 3, true);
        Check.due("15 first", 0, () -> x.hidden(0));
        Check.due("15 second", 2, () -> x.hidden(1));
        Check.due("15 no third", NONE, () -> x.hidden(2));
        Check.due("15 far behind", NONE, () -> x.hidden(Integer.MAX_VALUE));
        x.shows(0, 1, false);
        Check.due("15 another act shows it still", 2, () -> x.hidden(1));
        x.shows(1, 1, false);
        Check.due("15 no act shows it", 1, () -> x.hidden(1));
    }

    private static void provesUntilTheLifeEnds() {
        CaseLists x = withCase(10);
        Check.due("16 nothing told", 0, () -> x.proves(0, 0));
        x.result(0, 0, 20, true);
        x.result(0, 1, 22, true);
        Check.due("16 not yet", 21, () -> x.proves(0, 21));
        Check.due("16 from its first day", 31, () -> x.proves(0, 22));
        Check.due("16 from its last day", 31, () -> x.proves(0, 30));
        Check.due("16 not any more", 31, () -> x.proves(0, 31));
        x.result(0, 2, 30, true);
        Check.due("16 a later word goes on", 33, () -> x.proves(0, 22));
        x.result(0, 1, 33, true);
        Check.due("16 and on", 41, () -> x.proves(0, 22));
        CaseLists y = withCase(5000);
        y.result(0, 0, 100000, true);
        y.result(0, 1, 100000, true);
        Check.due("16 behind the last day", 105001, () -> y.proves(0, 100000));
        Check.due("16 before it", 99999, () -> y.proves(0, 99999));
        for (int day = 2500; day < 100000; day += 6500) {
            y.result(0, 0, day, true);
            y.result(0, 1, day, true);
        }
        Check.due("16 a gap", 7501, () -> y.proves(0, 2500));
    }

    private static void provesUntilSomethingElse() {
        CaseLists x = withCase(100);
        x.result(0, 0, 20, true);
        x.result(0, 1, 20, true);
        x.change(3, 50);
        Check.due("16 until a touch", 50, () -> x.proves(0, 20));
        x.result(0, 2, 40, false);
        Check.due("16 until a word that is not good", 40, () -> x.proves(0, 20));
        x.result(0, 2, 40, true);
        Check.due("16 it is replaced", 50, () -> x.proves(0, 20));
        x.change(4, 45);
        x.change(5, 30);
        Check.due("16 until the first touch", 45, () -> x.proves(0, 20));
        x.change(3, 60);
        Check.due("16 a later touch is told last", 45, () -> x.proves(0, 20));
        x.result(0, 0, 61, true);
        x.result(0, 1, 61, true);
        Check.due("16 behind the touches", 162, () -> x.proves(0, 61));
    }

    private static void latestTouch() {
        CaseLists x = withCase(10);
        x.fault(3, NONE);
        Check.due("17 never", NONE, () -> x.touched(0, 100000));
        x.change(4, 30);
        x.change(3, 20);
        Check.due("17 before", NONE, () -> x.touched(0, 19));
        Check.due("17 on the day", 20, () -> x.touched(0, 20));
        Check.due("17 between", 20, () -> x.touched(0, 29));
        Check.due("17 the latest, not the last told", 30, () -> x.touched(0, 30));
        Check.due("17 the other case", 20, () -> x.touched(1, 30));
        x.fault(6, NONE);
        x.change(6, 30);
        Check.due("17 another case on the same day", 30, () -> x.touched(2, 30));
        Check.due("17 the first is touched still", 30, () -> x.touched(0, 30));
        x.change(3, 0);
        Check.due("17 day 0", 0, () -> x.touched(1, 0));
        x.change(3, 100000);
        Check.due("17 the last day", 100000, () -> x.touched(1, 100000));
        for (int i = 0; i < 490; i++) {
            x.change(4, 1000 + 2 * i);
        }
        Check.due("17 many days", 1000 + 2 * 489, () -> x.touched(0, 99999));
        Check.due("17 many days, one between", 1000, () -> x.touched(0, 1001));
    }

    private static void wrongArguments() {
        CaseLists x = withCase(10);
        int[] wild = {Integer.MIN_VALUE, -2, -1, 100001, Integer.MAX_VALUE};
        for (int n : wild) {
            Check.illegalArgument("12 day " + n, () -> x.state(0, n));
            Check.illegalArgument("12 case " + n, () -> x.state(n, 0));
            Check.illegalArgument("13 day " + n, () -> x.word(0, 0, n));
            Check.illegalArgument("13 person " + n, () -> x.word(0, n, 0));
            Check.illegalArgument("13 case " + n, () -> x.word(n, 0, 0));
            Check.illegalArgument("14 day " + n, () -> x.listed(0, n, 0));
            Check.illegalArgument("14 state " + n, () -> x.listed(n, 0, 0));
            Check.illegalArgument("16 day " + n, () -> x.proves(0, n));
            Check.illegalArgument("16 case " + n, () -> x.proves(n, 0));
            Check.illegalArgument("17 day " + n, () -> x.touched(0, n));
            Check.illegalArgument("17 case " + n, () -> x.touched(n, 0));
        }
        for (int k : new int[] {-1, Integer.MIN_VALUE}) {
            Check.illegalArgument("14 k " + k, () -> x.listed(0, 0, k));
            Check.illegalArgument("15 k " + k, () -> x.hidden(k));
        }
        Check.illegalArgument("12 no such case", () -> x.state(1, 0));
        Check.illegalArgument("13 no such case", () -> x.word(1, 0, 0));
        Check.illegalArgument("13 no such person", () -> x.word(0, 10, 0));
        Check.illegalArgument("14 no such state", () -> x.listed(4, 0, 0));
        Check.illegalArgument("16 no such case", () -> x.proves(1, 0));
        Check.illegalArgument("17 no such case", () -> x.touched(1, 0));
        Check.due("12 the last day", OPEN, () -> x.state(0, 100000));
    }
}
