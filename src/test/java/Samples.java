import java.util.Arrays;

/** Objects to begin with, and all that can be asked of them: an object and its answers stay below 512 calls. */
final class Samples {
    static final int NONE = CaseLists.NONE;
    static final int OPEN = 0;
    static final int FAILED = 1;
    static final int DIFFERS = 2;
    static final int PROVED = 3;

    private Samples() {
    }

    /** Cases 0 .. n - 1, each of the point of its number. */
    static CaseLists withCases(int life, int n) {
        CaseLists x = new CaseLists(life);
        for (int i = 0; i < n; i++) {
            x.fault(i, NONE);
        }
        return x;
    }

    static int addAct(CaseLists x, int place, int seconds, int... faults) {
        int act = x.act(place, seconds);
        for (int fault : faults) {
            x.shows(act, fault, true);
        }
        return act;
    }

    /** Two good words of a case on a day: they prove it, if no other word is not good. */
    static void prove(CaseLists x, int fault, int day) {
        x.result(fault, 0, day, true);
        x.result(fault, 1, day, true);
    }

    /** A few of everything: 3 cases, 3 acts, ways, results, touches, and a plan of 2 acts. */
    static CaseLists small() {
        CaseLists x = withCases(10, 2);
        x.fault(1, 2);
        addAct(x, 0, 10, 0);
        addAct(x, 1, 20, 1);
        addAct(x, 2, 5);
        x.way(0, 1, 7);
        x.way(0, 2, 3);
        x.way(1, 9, 3);
        x.result(0, 0, 20, true);
        x.result(0, 9, 21, true);
        x.result(1, 4, 20, true);
        x.result(1, 5, 20, false);
        x.result(2, 3, 20, false);
        x.change(1, 15);
        x.change(0, 40);
        x.plan(0);
        return x;
    }

    /** All that there can be: 24 cases, 8 acts, 32 results of case 0, and a plan of 8 acts. */
    static CaseLists full() {
        CaseLists x = withCases(5000, 24);
        for (int a = 0; a < 8; a++) {
            addAct(x, a, 100 + a, 3 * a, 3 * a + 1);
        }
        x.way(0, 1, 10000);
        x.way(8, 9, 4);
        for (int i = 0; i < 32; i++) {
            x.result(0, i % 10, 1000 + i / 10, i % 3 > 0);
        }
        prove(x, 1, 1000);
        x.result(2, 9, 1001, false);
        x.change(0, 500);
        x.change(23, 1002);
        x.plan(0);
        return x;
    }

    /** What the calls that only ask answer. */
    static long[] asked(CaseLists x) {
        Answers all = new Answers();
        for (int fault = 0; fault < 25; fault++) {
            int f = fault;
            all.add(() -> x.state(f, 1001));
            all.add(() -> x.proves(f, 1001));
            all.add(() -> x.touched(f, 100000));
        }
        for (int fault = 0; fault < 4; fault++) {
            int f = fault;
            for (int day = 14; day <= 44; day += 6) {
                int d = day;
                all.add(() -> x.state(f, d));
                all.add(() -> x.touched(f, d));
                all.add(() -> x.proves(f, d));
            }
        }
        for (int person = 0; person < 10; person++) {
            int p = person;
            for (int fault = 0; fault < 3; fault++) {
                int f = fault;
                all.add(() -> x.word(f, p, 21));
                all.add(() -> x.word(f, p, 1001));
                all.add(() -> x.word(f, p, 1003));
            }
        }
        for (int n = 0; n < 9; n++) {
            int k = n;
            all.add(() -> x.planned(k));
            all.add(() -> x.from(k));
            all.add(() -> x.hidden(k));
            all.add(() -> x.listed(k % 4, 21, k / 4));
        }
        all.add(() -> x.seconds());
        return all.toArray();
    }

    /** What the calls that tell something answer, of what was there before. */
    static long[] toldAgain(CaseLists x) {
        Answers all = new Answers();
        for (int act = 0; act < 8; act++) {
            for (int fault = 0; fault < 24; fault++) {
                int a = act;
                int f = fault;
                all.add(() -> x.shows(a, f, false) ? 1 : 0);
            }
        }
        for (int place = 0; place < 10; place++) {
            for (int other = 0; other < place; other++) {
                int p = place;
                int o = other;
                all.add(() -> x.way(p, o, 0));
            }
        }
        for (int fault = 0; fault < 24; fault++) {
            int f = fault;
            all.add(() -> x.result(f, 7, 77777, true));
        }
        for (int point = 0; point < 30; point++) {
            int p = point;
            all.add(() -> x.change(p, 99999));
        }
        all.add(() -> x.act(0, 1));
        all.add(() -> x.fault(29, 28));
        all.add(() -> x.fault(29, NONE));
        return all.toArray();
    }

    private static final class Answers {
        private final long[] answers = new long[400];
        private int count = 0;

        void add(Check.Call call) {
            answers[count] = Check.of(call);
            count++;
        }

        long[] toArray() {
            return Arrays.copyOf(answers, count);
        }
    }
}
