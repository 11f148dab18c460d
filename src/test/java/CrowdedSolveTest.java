import java.util.Random;

/** Promises 14 to 17 where there is much to choose from: full plugins with many needs, against the plain model. */
public final class CrowdedSolveTest {
    private static final Checks CHECKS = new Checks();
    private static final int RUNS = 150;
    private static final int SOLVES = 4;

    private final Random random;
    private final ReleaseSolver solver = new ReleaseSolver();
    private final PlainModel model = new PlainModel();
    private final String told;

    private CrowdedSolveTest(int run) {
        random = new Random(1000 + run);
        told = "run " + run + ": ";
    }

    public static void main(String[] args) {
        for (int run = 0; run < RUNS; run++) {
            new CrowdedSolveTest(run).play();
        }
        CHECKS.end();
    }

    private void play() {
        for (int i = 0; i < 60; i++) {
            int plugin = random.nextInt(6);
            put(String.valueOf(1 + random.nextInt(4)));
            CHECKS.due(told + "release", solver.release(plugin), model.release(plugin));
        }
        int optionalIn = 1 + random.nextInt(4);
        int needs = random.nextInt(45);
        for (int i = 0; i < needs; i++) {
            need(random.nextInt(4) >= optionalIn);
        }
        for (int i = 0; i < SOLVES; i++) {
            change();
            solve();
        }
    }

    private void need(boolean optional) {
        int plugin = random.nextInt(6);
        int release = random.nextInt(4);
        int other = random.nextInt(6);
        put(range());
        CHECKS.due(told + "need", solver.need(plugin, release, other, optional), model.need(plugin, release, other, optional));
    }

    private void change() {
        int asks = 1 + random.nextInt(3);
        for (int i = 0; i < asks; i++) {
            int plugin = random.nextInt(6);
            put(range());
            CHECKS.due(told + "ask", solver.ask(plugin), model.ask(plugin));
        }
        int plugin = random.nextInt(6);
        int release = random.nextInt(4);
        boolean on = random.nextBoolean();
        CHECKS.due(told + "withdraw", solver.withdraw(plugin, release, on), model.withdraw(plugin, release, on));
        put(random.nextBoolean() ? "[1]" : "2");
        CHECKS.due(told + "needHost", solver.needHost(plugin, 3 - release), model.needHost(plugin, 3 - release));
        put(random.nextBoolean() ? "1" : "2.0");
        CHECKS.due(told + "host", solver.host(), model.host());
        if (random.nextInt(3) == 0) {
            CHECKS.due(told + "unask", solver.unask(0), model.unask(0));
        }
        CHECKS.due(told + "unmet", solver.unmet(), model.unmet());
    }

    private void solve() {
        CHECKS.due(told + "solve", solver.solve(), model.solve());
        for (int plugin = 0; plugin < 6; plugin++) {
            CHECKS.due(told + "chosen(" + plugin + ")", solver.chosen(plugin), model.chosen(plugin));
        }
        for (int ask = 0; ask < 4; ask++) {
            CHECKS.due(told + "blamed(" + ask + ")", solver.blamed(ask), model.blamed(ask));
        }
        CHECKS.due(told + "unmet", solver.unmet(), model.unmet());
    }

    private void put(String text) {
        solver.wipe();
        model.wipe();
        Checks.put(solver, text);
        for (int at = 0; at < text.length(); at++) {
            model.write(text.charAt(at));
        }
    }

    private String range() {
        int least = 1 + random.nextInt(4);
        return "[" + least + "," + (least + random.nextInt(3)) + "]";
    }
}
