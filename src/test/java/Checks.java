/** Counts wrong answers, and joins the writing of a text with the call that uses it up. */
final class Checks {
    private int wrong = 0;
    private int done = 0;

    void due(String call, long got, long want) {
        done++;
        if (got != want) {
            wrong++;
            System.out.println(call + " answered " + got + ", due is " + want);
        }
    }

    void due(String call, boolean got, boolean want) {
        due(call, got ? 1 : 0, want ? 1 : 0);
    }

    /** Ends the test: exit code 1 if an answer was wrong. */
    void end() {
        System.out.println(done + " answers looked at, " + wrong + " wrong");
        if (wrong != 0 || done == 0) {
            System.exit(1);
        }
    }

    static ReleaseSolver put(ReleaseSolver solver, String text) {
        for (int at = 0; at < text.length(); at += 4) {
            solver.write(charAt(text, at), charAt(text, at + 1), charAt(text, at + 2), charAt(text, at + 3));
        }
        return solver;
    }

    static int release(ReleaseSolver solver, int plugin, String version) {
        return put(solver, version).release(plugin);
    }

    static void releases(ReleaseSolver solver, int plugin, String... versions) {
        for (String version : versions) {
            release(solver, plugin, version);
        }
    }

    static int need(ReleaseSolver solver, int plugin, int release, int other, String range) {
        return put(solver, range).need(plugin, release, other, false);
    }

    static int optional(ReleaseSolver solver, int plugin, int release, int other, String range) {
        return put(solver, range).need(plugin, release, other, true);
    }

    static int needHost(ReleaseSolver solver, int plugin, int release, String range) {
        return put(solver, range).needHost(plugin, release);
    }

    static int host(ReleaseSolver solver, String version) {
        return put(solver, version).host();
    }

    static int ask(ReleaseSolver solver, int plugin, String range) {
        return put(solver, range).ask(plugin);
    }

    static int rank(ReleaseSolver solver, String version, int item) {
        return put(solver, version).rank(item);
    }

    static int within(ReleaseSolver solver, int plugin, int release, String range) {
        return put(solver, range).within(plugin, release);
    }

    /** How two versions compare, found with two fresh plugins. */
    static int compare(String one, String other) {
        ReleaseSolver solver = new ReleaseSolver();
        release(solver, 0, one);
        release(solver, 1, other);
        return solver.compare(0, 0, 1, 0);
    }

    /** The chosen releases of all plugins, '-' for none, as a text such as "03----". */
    static String selection(ReleaseSolver solver) {
        StringBuilder row = new StringBuilder();
        for (int plugin = 0; plugin < 6; plugin++) {
            int chosen = solver.chosen(plugin);
            row.append(chosen == ReleaseSolver.NONE ? "-" : String.valueOf(chosen));
        }
        return row.toString();
    }

    void dueSelection(String call, ReleaseSolver solver, String want) {
        done++;
        String got = selection(solver);
        if (!got.equals(want)) {
            wrong++;
            System.out.println(call + " chose " + got + ", due is " + want);
        }
    }

    private static int charAt(String text, int at) {
        return at < text.length() ? text.charAt(at) : 0;
    }
}
