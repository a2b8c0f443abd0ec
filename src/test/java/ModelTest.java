import java.util.Random;

/** Promises 1 to 17: runs of calls that are drawn with a fixed seed, compared with the plain model. */
public final class ModelTest {
    private static final int CALLS = 512;
    private static final int[] WILD = {Integer.MIN_VALUE, -2, -1, 0, 1, 7, 8, 9, 10, 23, 24, 29, 30, 9999, 10000, 10001,
        99999, 100000, 100001, Integer.MAX_VALUE};

    private final Random random;
    private final int dayRange;
    private final int mostActs;
    private final CaseLists real;
    private final Model model;

    private ModelTest(int seed) {
        random = new Random(seed);
        dayRange = random.nextInt(3) == 0 ? 100001 : 30;
        // The model tries every order of acts, so that most runs must do with few of them.
        mostActs = seed % 10 == 0 ? 6 : 2 + random.nextInt(4);
        int life = dayRange == 30 ? random.nextInt(12) - 1 : random.nextInt(5200);
        real = new CaseLists(life);
        model = new Model(life);
    }

    public static void main(String[] args) {
        for (int seed = 0; seed < 300; seed++) {
            ModelTest run = new ModelTest(seed);
            for (int call = 0; call < CALLS; call++) {
                run.oneCall("seed " + seed + ", call " + call + ": ");
            }
        }
        Check.end();
    }

    private int number(int bound) {
        return random.nextInt(60) == 0 ? WILD[random.nextInt(WILD.length)] : random.nextInt(bound);
    }

    private int day() {
        int day = number(dayRange);
        return dayRange > 30 && random.nextInt(2) == 0 ? day / 5000 * 5000 : day;
    }

    private void same(String what, Check.Call got, Check.Call want) {
        Check.due(what, Check.of(want), got);
    }

    private void oneCall(String run) {
        int kind = random.nextInt(20);
        if (kind < 8) {
            tell(run, kind);
        } else if (kind < 12) {
            makePlan(run, kind);
        } else {
            ask(run, kind);
        }
    }

    private void tell(String run, int kind) {
        boolean yes = random.nextInt(3) > 0;
        if (kind == 0) {
            int point = number(6);
            int other = random.nextInt(2) == 0 ? -1 : number(6);
            same(run + "fault", () -> real.fault(point, other), () -> model.fault(point, other));
        } else if (kind == 1) {
            int place = number(10);
            int seconds = number(5);
            if (Check.of(() -> model.from(mostActs - 1)) == Check.ILLEGAL_ARGUMENT) {
                same(run + "act", () -> real.act(place, seconds), () -> model.act(place, seconds));
            }
        } else if (kind == 2 || kind == 3) {
            int act = number(mostActs);
            int fault = number(12);
            same(run + "shows", () -> real.shows(act, fault, yes) ? 1 : 0, () -> model.shows(act, fault, yes));
        } else if (kind == 4) {
            int place = number(10);
            int other = number(10);
            int seconds = number(5);
            same(run + "way", () -> real.way(place, other, seconds), () -> model.way(place, other, seconds));
        } else if (kind == 5) {
            int point = random.nextInt(3) == 0 ? number(6) : number(30);
            int day = day();
            same(run + "change", () -> real.change(point, day), () -> model.change(point, day));
        } else {
            int fault = number(6);
            int person = number(10);
            int day = day();
            same(run + "result", () -> real.result(fault, person, day, yes),
                    () -> model.result(fault, person, day, yes));
        }
    }

    private void makePlan(String run, int kind) {
        int k = number(4);
        int day = day();
        if (kind == 8) {
            same(run + "plan", () -> real.plan(day), () -> model.plan(day));
        } else if (kind == 9) {
            same(run + "planned", () -> real.planned(k), () -> model.planned(k));
        } else if (kind == 10) {
            same(run + "seconds", () -> real.seconds(), () -> model.seconds());
        } else {
            same(run + "from", () -> real.from(k), () -> model.from(k));
        }
    }

    private void ask(String run, int kind) {
        int fault = number(8);
        int person = number(10);
        int day = day();
        int k = number(4);
        int state = number(4);
        if (kind == 12 || kind == 13) {
            same(run + "state", () -> real.state(fault, day), () -> model.state(fault, day));
        } else if (kind == 14) {
            same(run + "word", () -> real.word(fault, person, day), () -> model.word(fault, person, day));
        } else if (kind == 15) {
            same(run + "listed", () -> real.listed(state, day, k), () -> model.listed(state, day, k));
        } else if (kind == 16) {
            same(run + "hidden", () -> real.hidden(k), () -> model.hidden(k));
        } else if (kind == 17 || kind == 18) {
            same(run + "proves", () -> real.proves(fault, day), () -> model.proves(fault, day));
        } else {
            same(run + "touched", () -> real.touched(fault, day), () -> model.touched(fault, day));
        }
    }
}
