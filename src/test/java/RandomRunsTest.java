import java.util.Random;

/** All promises at once: long runs of calls, always the same ones, answered as the plain model answers them. */
public final class RandomRunsTest {
    private static final Checks CHECKS = new Checks();
    private static final int RUNS = 300;
    private static final int CALLS = 512;
    private static final String[] VERSIONS = {"1", "2", "3", "4", "1.0", "1-rc", "2-rc1", "2a1", "2b3", "3.0.1", "1-sp", "2-x",
        "2-snapshot", "3-beta", "01", "2.ga", "1.10", "1.9", "0", "a", "m1", "4-alpha-1", "x.y", "1.2.3.4.5.67"};
    private static final String[] WRONG = {"", "1.", ".1", "1..2", "[1", "(1)", "[]", "1,2", "[1,2,3]", "1234567890",
        "1.2.3.4.5.678", "[1)", "(,1", "]", "[1,.]"};

    private final Random random;
    private final ReleaseSolver solver = new ReleaseSolver();
    private final PlainModel model = new PlainModel();
    private final String told;
    private int calls = 0;

    private RandomRunsTest(int run) {
        random = new Random(run);
        told = "run " + run;
    }

    public static void main(String[] args) {
        for (int run = 0; run < RUNS; run++) {
            new RandomRunsTest(run).play();
        }
        CHECKS.end();
    }

    private void play() {
        while (calls < CALLS) {
            step();
        }
    }

    private void due(String call, long got, long want) {
        calls++;
        CHECKS.due(told + ", call " + calls + ": " + call, got, want);
    }

    private void step() {
        int kind = random.nextInt(100);
        if (kind < 16) {
            int plugin = plugin();
            put(version());
            due("release(" + plugin + ")", solver.release(plugin), model.release(plugin));
        } else if (kind < 34) {
            need();
        } else if (kind < 38) {
            int plugin = plugin();
            int release = release();
            put(random.nextInt(3) == 0 ? "" : range());
            due("needHost(" + plugin + ", " + release + ")", solver.needHost(plugin, release), model.needHost(plugin, release));
        } else if (kind < 44) {
            int plugin = plugin();
            int release = release();
            boolean on = random.nextInt(3) == 0;
            due("withdraw", solver.withdraw(plugin, release, on), model.withdraw(plugin, release, on));
        } else if (kind < 46) {
            put(version());
            due("host()", solver.host(), model.host());
        } else if (kind < 58) {
            int plugin = plugin();
            put(range());
            due("ask(" + plugin + ")", solver.ask(plugin), model.ask(plugin));
        } else if (kind < 64) {
            int ask = random.nextInt(6) - 1;
            due("unask(" + ask + ")", solver.unask(ask), model.unask(ask));
        } else {
            look(kind);
        }
    }

    private void need() {
        int plugin = plugin();
        int release = release();
        int other = plugin();
        boolean optional = random.nextInt(3) == 0;
        put(range());
        due("need(" + plugin + ", " + release + ", " + other + ", " + optional + ")",
                solver.need(plugin, release, other, optional), model.need(plugin, release, other, optional));
    }

    private void look(int kind) {
        if (kind < 72) {
            int plugin = plugin();
            int release = release();
            int other = plugin();
            int otherRelease = release();
            due("compare(" + plugin + ", " + release + ", " + other + ", " + otherRelease + ")",
                    solver.compare(plugin, release, other, otherRelease), model.compare(plugin, release, other, otherRelease));
        } else if (kind < 76) {
            int item = random.nextInt(9) - 1;
            put(version());
            due("rank(" + item + ")", solver.rank(item), model.rank(item));
        } else if (kind < 82) {
            int plugin = plugin();
            int release = release();
            put(range());
            due("within(" + plugin + ", " + release + ")", solver.within(plugin, release), model.within(plugin, release));
        } else if (kind < 88) {
            due("unmet()", solver.unmet(), model.unmet());
        } else if (kind < 94) {
            int what = random.nextInt(7) - 1;
            due("count(" + what + ")", solver.count(what), model.count(what));
        } else if (kind < 95) {
            due("wipe()", solver.wipe(), model.wipe());
        } else if (kind < 96) {
            int character = random.nextInt(300) - 20;
            due("write(" + character + ")", solver.write(0, character, '1', 0), model.write(0, character, '1', 0));
        } else {
            solve();
        }
    }

    private void solve() {
        due("solve()", solver.solve(), model.solve());
        for (int plugin = -1; plugin < 7; plugin++) {
            due("chosen(" + plugin + ")", solver.chosen(plugin), model.chosen(plugin));
        }
        for (int ask = -1; ask < 5; ask++) {
            due("blamed(" + ask + ")", solver.blamed(ask) ? 1 : 0, model.blamed(ask) ? 1 : 0);
        }
    }

    private void put(String text) {
        for (int at = 0; at < text.length(); at += 2) {
            int first = text.charAt(at);
            int second = at + 1 < text.length() ? text.charAt(at + 1) : 0;
            due("write", solver.write(0, first, 0, second), model.write(0, first, 0, second));
        }
    }

    private int plugin() {
        return random.nextInt(40) == 0 ? random.nextInt(9) - 2 : random.nextInt(6);
    }

    private int release() {
        return random.nextInt(40) == 0 ? random.nextInt(7) - 2 : random.nextInt(4);
    }

    private String version() {
        if (random.nextInt(20) == 0) {
            return WRONG[random.nextInt(WRONG.length)];
        }
        return VERSIONS[random.nextInt(random.nextBoolean() ? 4 : VERSIONS.length)];
    }

    private String range() {
        switch (random.nextInt(6)) {
            case 0:
                return "[" + version() + "]";
            case 1:
                return version();
            case 2:
                return "(,)";
            default:
                return (random.nextBoolean() ? "[" : "(") + (random.nextInt(3) == 0 ? "" : version()) + ","
                        + (random.nextInt(2) == 0 ? "" : version()) + (random.nextBoolean() ? "]" : ")");
        }
    }
}
