/** Promises 1 to 7: a new object and the calls that tell it something. */
public final class TellingTest {
    private static final int NONE = CaseLists.NONE;

    public static void main(String[] args) {
        newObjectIsEmpty();
        lifeIsHeldInBounds();
        faultNumbersCases();
        faultRefuses();
        actNumbersActs();
        showsAnswersWhatWas();
        wayGoesThereAndBack();
        changeCountsCases();
        resultCountsAndReplaces();
        resultRefuses();
        Check.end();
    }

    private static void newObjectIsEmpty() {
        CaseLists x = new CaseLists(7);
        Check.due("1 hidden", NONE, () -> x.hidden(0));
        for (int s = 0; s < 4; s++) {
            int state = s;
            Check.due("1 listed " + s, NONE, () -> x.listed(state, 0, 0));
        }
        Check.due("1 seconds", 0, () -> x.seconds());
        Check.illegalArgument("1 planned", () -> x.planned(0));
        Check.illegalArgument("1 from", () -> x.from(0));
        Check.illegalArgument("1 state", () -> x.state(0, 0));
        Check.illegalArgument("1 shows", () -> x.shows(0, 0, true) ? 1 : 0);
        Check.due("1 change", 0, () -> x.change(0, 0));
    }

    private static void lifeIsHeldInBounds() {
        int[][] lives = {{Integer.MIN_VALUE, 1}, {-1, 1}, {0, 1}, {1, 1}, {2, 2}, {4999, 4999}, {5000, 5000},
            {5001, 5000}, {Integer.MAX_VALUE, 5000}};
        for (int[] row : lives) {
            CaseLists x = new CaseLists(row[0]);
            x.fault(0, NONE);
            x.result(0, 0, 10, true);
            Check.due("1 life " + row[0] + " last day", 1, () -> x.word(0, 0, 10 + row[1]));
            Check.due("1 life " + row[0] + " behind it", NONE, () -> x.word(0, 0, 11 + row[1]));
        }
    }

    private static void faultNumbersCases() {
        CaseLists x = new CaseLists(7);
        Check.due("2 one point", 0, () -> x.fault(0, NONE));
        Check.due("2 two points", 1, () -> x.fault(0, 29));
        Check.due("2 the same two, turned", 1, () -> x.fault(29, 0));
        Check.due("2 the second point alone", 2, () -> x.fault(29, NONE));
        Check.due("2 the first again", 0, () -> x.fault(0, NONE));
        for (int i = 3; i < 24; i++) {
            int n = i;
            Check.due("2 case " + i, n, () -> x.fault(n, NONE));
        }
        Check.illegalState("2 the 25th", () -> x.fault(1, NONE));
        Check.illegalArgument("2 illegal argument goes first", () -> x.fault(1, 1));
        Check.due("2 a case that was there, in a full list", 1, () -> x.fault(0, 29));
        Check.due("2 nothing was added", 23, () -> x.hidden(23));
        Check.due("2 nothing was added", NONE, () -> x.hidden(24));
    }

    private static void faultRefuses() {
        CaseLists x = new CaseLists(7);
        int[][] bad = {{-1, 0}, {-1, -1}, {30, -1}, {30, 0}, {0, 30}, {0, -2}, {5, 5}, {Integer.MIN_VALUE, 0},
            {0, Integer.MIN_VALUE}, {0, Integer.MAX_VALUE}, {Integer.MAX_VALUE, -1}};
        for (int[] row : bad) {
            Check.illegalArgument("2 fault(" + row[0] + ", " + row[1] + ")", () -> x.fault(row[0], row[1]));
        }
        Check.due("2 no case was made", NONE, () -> x.hidden(0));
    }

    private static void actNumbersActs() {
        CaseLists x = new CaseLists(7);
        int[][] bad = {{-1, 1}, {10, 1}, {0, 0}, {0, -1}, {0, 10001}, {Integer.MAX_VALUE, 1}, {0, Integer.MIN_VALUE}};
        for (int[] row : bad) {
            Check.illegalArgument("3 act(" + row[0] + ", " + row[1] + ")", () -> x.act(row[0], row[1]));
        }
        Check.due("3 edges", 0, () -> x.act(0, 1));
        Check.due("3 edges", 1, () -> x.act(9, 10000));
        for (int i = 2; i < 8; i++) {
            Check.due("3 the same place again", i, () -> x.act(9, 10000));
        }
        Check.illegalState("3 the 9th", () -> x.act(0, 1));
        Check.illegalArgument("3 illegal argument goes first", () -> x.act(10, 1));
        Check.due("3 act 7 is there", NONE, () -> x.from(7));
        Check.illegalArgument("3 act 8 is not", () -> x.from(8));
    }

    private static void showsAnswersWhatWas() {
        CaseLists x = new CaseLists(7);
        x.fault(0, NONE);
        x.fault(1, NONE);
        x.act(0, 5);
        int[][] bad = {{-1, 0}, {1, 0}, {0, -1}, {0, 2}, {8, 0}, {0, 24}, {Integer.MAX_VALUE, 0}, {0, Integer.MIN_VALUE}};
        for (int[] row : bad) {
            Check.illegalArgument("4 shows(" + row[0] + ", " + row[1] + ")", () -> x.shows(row[0], row[1], true) ? 1 : 0);
        }
        Check.due("4 off at first", 0, () -> x.shows(0, 1, false) ? 1 : 0);
        Check.due("4 on", 0, () -> x.shows(0, 1, true) ? 1 : 0);
        Check.due("4 on again", 1, () -> x.shows(0, 1, true) ? 1 : 0);
        Check.due("4 the other case is hidden", 0, () -> x.hidden(0));
        Check.due("4 only it", NONE, () -> x.hidden(1));
        Check.due("4 off", 1, () -> x.shows(0, 1, false) ? 1 : 0);
        Check.due("4 off again", 0, () -> x.shows(0, 1, false) ? 1 : 0);
        Check.due("4 both are hidden", 1, () -> x.hidden(1));
    }

    private static void wayGoesThereAndBack() {
        CaseLists x = new CaseLists(7);
        int[][] bad = {{-1, 0, 0}, {0, -1, 0}, {10, 0, 0}, {0, 10, 0}, {3, 3, 0}, {0, 1, -1}, {0, 1, 10001},
            {Integer.MAX_VALUE, 0, 0}, {0, Integer.MIN_VALUE, 0}};
        for (int[] row : bad) {
            Check.illegalArgument("5 way(" + row[0] + ", " + row[1] + ", " + row[2] + ")",
                    () -> x.way(row[0], row[1], row[2]));
        }
        Check.due("5 0 at first", 0, () -> x.way(0, 9, 10000));
        Check.due("5 back", 10000, () -> x.way(9, 0, 3));
        Check.due("5 there", 3, () -> x.way(0, 9, 0));
        Check.due("5 back", 0, () -> x.way(9, 0, 1));
        Check.due("5 another way is as it was", 0, () -> x.way(0, 8, 1));
    }

    private static void changeCountsCases() {
        CaseLists x = new CaseLists(7);
        x.fault(1, NONE);
        x.fault(1, 2);
        x.fault(3, 1);
        Check.due("6 as first or second point", 3, () -> x.change(1, 0));
        Check.due("6 one", 1, () -> x.change(2, 100000));
        Check.due("6 none", 0, () -> x.change(29, 4));
        int[][] bad = {{-1, 0}, {30, 0}, {0, -1}, {0, 100001}, {Integer.MIN_VALUE, 0}, {1, Integer.MAX_VALUE}};
        for (int[] row : bad) {
            Check.illegalArgument("6 change(" + row[0] + ", " + row[1] + ")", () -> x.change(row[0], row[1]));
        }
        x.change(4, 9);
        x.fault(4, NONE);
        Check.due("6 a later case is not touched", NONE, () -> x.touched(3, 100));
        Check.due("6 the same day again", 1, () -> x.change(4, 9));
        Check.due("6 now it is", 9, () -> x.touched(3, 100));
        Check.due("6 the others are not", 0, () -> x.touched(0, 100));
    }

    private static void resultCountsAndReplaces() {
        CaseLists x = new CaseLists(5000);
        x.fault(0, NONE);
        x.fault(1, NONE);
        for (int i = 0; i < 32; i++) {
            int n = i;
            Check.due("7 result " + i, n + 1, () -> x.result(0, n % 10, n / 10, false));
        }
        Check.illegalState("7 the 33rd", () -> x.result(0, 2, 3, true));
        Check.due("7 the 33rd changed nothing", 0, () -> x.word(0, 2, 3));
        Check.due("7 in a full case one takes another's place", 32, () -> x.result(0, 2, 2, true));
        Check.due("7 it did", 1, () -> x.word(0, 2, 2));
        Check.due("7 another case", 1, () -> x.result(1, 2, 3, true));
        Check.due("7 another person", 2, () -> x.result(1, 3, 3, true));
        Check.due("7 another day", 3, () -> x.result(1, 3, 4, true));
        Check.due("7 the same", 3, () -> x.result(1, 3, 3, false));
        Check.due("7 the earlier day's", 0, () -> x.word(1, 3, 3));
        Check.due("7 the later day's", 1, () -> x.word(1, 3, 4));
        x.change(1, 50);
        Check.due("7 what does not count any more is still a result", 4, () -> x.result(1, 0, 60, true));
    }

    private static void resultRefuses() {
        CaseLists x = new CaseLists(7);
        x.fault(0, NONE);
        int[][] bad = {{-1, 0, 0}, {1, 0, 0}, {24, 0, 0}, {0, -1, 0}, {0, 10, 0}, {0, 0, -1}, {0, 0, 100001},
            {Integer.MAX_VALUE, 0, 0}, {0, Integer.MIN_VALUE, 0}, {0, 0, Integer.MAX_VALUE}};
        for (int[] row : bad) {
            Check.illegalArgument("7 result(" + row[0] + ", " + row[1] + ", " + row[2] + ")",
                    () -> x.result(row[0], row[1], row[2], true));
        }
        Check.due("7 edges", 1, () -> x.result(0, 9, 100000, true));
        Check.due("7 edges", 2, () -> x.result(0, 0, 0, true));
        for (int i = 0; i < 30; i++) {
            x.result(0, 5, i, true);
        }
        Check.illegalArgument("7 illegal argument goes first", () -> x.result(0, 10, 0, true));
        Check.illegalState("7 full", () -> x.result(0, 5, 30, true));
    }
}
