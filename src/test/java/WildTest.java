import java.util.Random;

/** No call throws but what the document names, for wild arguments and behind the 512th call too. */
public final class WildTest {
    private static final int[] WILD = {Integer.MIN_VALUE, -100001, -2, -1, 0, 1, 2, 5, 7, 8, 9, 10, 23, 24, 29, 30, 31,
        32, 10000, 10001, 100000, 100001, Integer.MAX_VALUE};

    public static void main(String[] args) {
        for (int seed = 0; seed < 40; seed++) {
            Random random = new Random(seed);
            CaseLists x = new CaseLists(draw(random));
            for (int i = 0; i < 24; i++) {
                x.fault(i, CaseLists.NONE);
            }
            for (int call = 0; call < 5000; call++) {
                oneCall(x, random);
            }
        }
        Check.end();
    }

    private static int draw(Random random) {
        return random.nextInt(3) == 0 ? WILD[random.nextInt(WILD.length)] : random.nextInt(random.nextBoolean() ? 8 : 1500);
    }

    private static void oneCall(CaseLists x, Random random) {
        int a = draw(random);
        int b = draw(random);
        int c = draw(random);
        boolean yes = random.nextBoolean();
        switch (random.nextInt(16)) {
            case 0: Check.of(() -> x.fault(a, b)); break;
            case 1: Check.of(() -> x.act(a, b)); break;
            case 2: Check.of(() -> x.shows(a, b, yes) ? 1 : 0); break;
            case 3: Check.of(() -> x.way(a, b, c)); break;
            case 4: Check.of(() -> x.change(a, b)); break;
            case 5: Check.of(() -> x.result(a, b, c, true)); break;
            case 6: Check.of(() -> x.plan(a)); break;
            case 7: Check.of(() -> x.planned(a)); break;
            case 8: Check.of(() -> x.seconds()); break;
            case 9: Check.of(() -> x.from(a)); break;
            case 10: Check.of(() -> x.state(a, b)); break;
            case 11: Check.of(() -> x.word(a, b, c)); break;
            case 12: Check.of(() -> x.listed(a, b, c)); break;
            case 13: Check.of(() -> x.hidden(a)); break;
            case 14: Check.of(() -> x.proves(a, b)); break;
            default: Check.of(() -> x.touched(a, b)); break;
        }
    }
}
