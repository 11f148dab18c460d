import java.util.Random;

/** Numbers of every size in every place of every call: each answer is the plain model's, and no call throws. */
public final class WildCallsTest {
    private static final Checks CHECKS = new Checks();
    private static final int RUNS = 200;
    private static final int CALLS = 512;
    private static final int[] FAR = {Integer.MIN_VALUE, Integer.MIN_VALUE + 1, Integer.MIN_VALUE + 5, -256, -32, -9, -1, 6,
            12, 24,
        32, 33, 255, 256, 65535, 65536, 65536 + '1', 1 << 30, Integer.MAX_VALUE - 1, Integer.MAX_VALUE};

    private final Random random;
    private final ReleaseSolver solver = new ReleaseSolver();
    private final PlainModel model = new PlainModel();
    private final String told;

    private WildCallsTest(int run) {
        random = new Random(5000 + run);
        told = "run " + run + ": ";
    }

    public static void main(String[] args) {
        for (int run = 0; run < RUNS; run++) {
            WildCallsTest test = new WildCallsTest(run);
            for (int call = 0; call < CALLS; call++) {
                test.step();
            }
        }
        CHECKS.end();
    }

    private void due(String call, long got, long want) {
        CHECKS.due(told + call, got, want);
    }

    private int number() {
        return random.nextInt(5) == 0 ? FAR[random.nextInt(FAR.length)] : random.nextInt(5);
    }

    private int character() {
        String likely = "1112.-[](),a";
        int kind = random.nextInt(40);
        return kind == 0 ? FAR[random.nextInt(FAR.length)] : kind < 25 ? 0 : likely.charAt(random.nextInt(likely.length()));
    }

    private void step() {
        int a = number();
        int b = number();
        int c = number();
        int d = number();
        boolean on = random.nextBoolean();
        switch (random.nextInt(22)) {
            case 0: due("release(" + a + ")", solver.release(a), model.release(a)); break;
            case 1: due("need(" + a + ", " + b + ", " + c + ")", solver.need(a, b, c, on), model.need(a, b, c, on)); break;
            case 2: due("needHost(" + a + ", " + b + ")", solver.needHost(a, b), model.needHost(a, b)); break;
            case 3: due("withdraw(" + a + ", " + b + ")", solver.withdraw(a, b, on), model.withdraw(a, b, on)); break;
            case 4: due("host()", solver.host(), model.host()); break;
            case 5: due("ask(" + a + ")", solver.ask(a), model.ask(a)); break;
            case 6: due("unask(" + a + ")", solver.unask(a), model.unask(a)); break;
            case 7: due("compare(" + a + ", " + b + ", " + c + ", " + d + ")", solver.compare(a, b, c, d), model.compare(a,
                    b, c, d)); break;
            case 8: due("rank(" + a + ")", solver.rank(a), model.rank(a)); break;
            case 9: due("within(" + a + ", " + b + ")", solver.within(a, b), model.within(a, b)); break;
            case 10: due("solve()", solver.solve(), model.solve()); break;
            case 11: due("chosen(" + a + ")", solver.chosen(a), model.chosen(a)); break;
            case 12: due("blamed(" + a + ")", solver.blamed(a) ? 1 : 0, model.blamed(a) ? 1 : 0); break;
            case 13: due("unmet()", solver.unmet(), model.unmet()); break;
            case 14: due("count(" + a + ")", solver.count(a), model.count(a)); break;
            case 15: due("wipe()", solver.wipe(), model.wipe()); break;
            default: write(); break;
        }
    }

    private void write() {
        int a = character();
        int b = character();
        int c = character();
        int d = character();
        due("write(" + a + ", " + b + ", " + c + ", " + d + ")", solver.write(a, b, c, d), model.write(a, b, c, d));
    }
}
