/**
 * Runs of calls that test one sentence of the document. Every call on it tells which answer is due, so that a wrong
 * answer is printed together with the sentence that it breaks.
 */
final class Edge {
    static final int REFUSED = ReleaseSolver.REFUSED;
    static final int FULL = ReleaseSolver.FULL;
    static final int BAD = ReleaseSolver.BAD;
    static final int NONE = ReleaseSolver.NONE;
    static final int TWICE = ReleaseSolver.TWICE;
    /** What compare answers in place of REFUSED. */
    static final int NOT_COMPARED = -9;

    /** Nothing is promised about an object behind so many calls. */
    private static final int MOST_CALLS = 512;

    /** Numbers that no plugin has; some of them would be one if only their low bits were looked at. */
    private static final int[] NO_PLUGINS = {-1, 6, 7, -6, 8, 16, 32, 64, 256, 1 << 16, 1 << 30, Integer.MIN_VALUE,
        Integer.MIN_VALUE + 1, Integer.MAX_VALUE, Integer.MAX_VALUE - 1};

    private static int sentences = 0;
    private static int answers = 0;
    private static int wrong = 0;

    private final String sentence;
    private ReleaseSolver solver = new ReleaseSolver();
    private int calls = 0;

    private Edge(String sentence) {
        this.sentence = sentence;
    }

    /** The words of the document that the calls on this object test. */
    static Edge of(String sentence) {
        sentences++;
        return new Edge(sentence);
    }

    /** Goes on with a new object. */
    Edge anew() {
        solver = new ReleaseSolver();
        calls = 0;
        return this;
    }

    static int[] noPlugins() {
        return NO_PLUGINS.clone();
    }

    /** Ends the test: exit code 1 if an answer was wrong. */
    static void end() {
        System.out.println(sentences + " sentences, " + answers + " answers looked at, " + wrong + " wrong");
        if (wrong != 0 || answers == 0) {
            System.exit(1);
        }
    }

    Edge due(String call, Object got, Object want) {
        answers++;
        if (!got.equals(want)) {
            wrong++;
            System.out.println("\"" + sentence + "\": call " + calls + ", " + call + " answered " + got + ", due is " + want);
        }
        return this;
    }

    /** Writes the text behind what is written already; there must be room for it. */
    Edge text(String text) {
        for (int at = 0; at < text.length(); at += 4) {
            int before = count(0);
            int written = Math.min(4, text.length() - at);
            write(charAt(text, at), charAt(text, at + 1), charAt(text, at + 2), charAt(text, at + 3), before + written);
        }
        return this;
    }

    Edge write(int a, int b, int c, int d, int want) {
        return answered("write(" + a + ", " + b + ", " + c + ", " + d + ")", solver.write(a, b, c, d), want);
    }

    Edge wipe(int want) {
        return answered("wipe()", solver.wipe(), want);
    }

    Edge release(int plugin, String version, int want) {
        text(version);
        return answered("release(" + plugin + ") of " + version, solver.release(plugin), want);
    }

    /** The plugin's first releases. */
    Edge releases(int plugin, String... versions) {
        for (int i = 0; i < versions.length; i++) {
            release(plugin, versions[i], i);
        }
        return this;
    }

    /** Each plugin has the releases 1, 2, 3, 4 by number 0 .. 3. */
    Edge stocked() {
        for (int plugin = 0; plugin < 6; plugin++) {
            releases(plugin, "1", "2", "3", "4");
        }
        return this;
    }

    Edge need(int plugin, int release, int other, String range, int want) {
        return need(plugin, release, other, false, range, want);
    }

    Edge optional(int plugin, int release, int other, String range, int want) {
        return need(plugin, release, other, true, range, want);
    }

    private Edge need(int plugin, int release, int other, boolean optional, String range, int want) {
        text(range);
        String call = "need(" + plugin + ", " + release + ", " + other + ", " + optional + ") of " + range;
        return answered(call, solver.need(plugin, release, other, optional), want);
    }

    Edge needHost(int plugin, int release, String range, int want) {
        text(range);
        return answered("needHost(" + plugin + ", " + release + ") of " + range, solver.needHost(plugin, release), want);
    }

    Edge withdraw(int plugin, int release, boolean on, int want) {
        String call = "withdraw(" + plugin + ", " + release + ", " + on + ")";
        return answered(call, solver.withdraw(plugin, release, on), want);
    }

    Edge host(String version, int want) {
        text(version);
        return answered("host() of " + version, solver.host(), want);
    }

    Edge ask(int plugin, String range, int want) {
        text(range);
        return answered("ask(" + plugin + ") of " + range, solver.ask(plugin), want);
    }

    Edge unask(int ask, int want) {
        return answered("unask(" + ask + ")", solver.unask(ask), want);
    }

    Edge compare(int plugin, int release, int other, int otherRelease, int want) {
        String call = "compare(" + plugin + ", " + release + ", " + other + ", " + otherRelease + ")";
        return answered(call, solver.compare(plugin, release, other, otherRelease), want);
    }

    /** Both ways round, with two new plugins of a new object. */
    Edge compared(String one, String other, int want) {
        anew().release(0, one, 0).release(1, other, 0);
        return due(one + " compared to " + other, solver.compare(0, 0, 1, 0), want)
                .due(other + " compared to " + one, solver.compare(1, 0, 0, 0), -want);
    }

    Edge rank(String version, int item, int want) {
        text(version);
        return answered("rank(" + item + ") of " + version, solver.rank(item), want);
    }

    Edge within(int plugin, int release, String range, int want) {
        text(range);
        return answered("within(" + plugin + ", " + release + ") of " + range, solver.within(plugin, release), want);
    }

    Edge solve(int want) {
        return answered("solve()", solver.solve(), want);
    }

    /** Solves, and looks at what all plugins have: a row of release numbers, '-' for none. */
    Edge solve(int want, String chosen) {
        return solve(want).chosen(chosen);
    }

    Edge chosen(int plugin, int want) {
        return answered("chosen(" + plugin + ")", solver.chosen(plugin), want);
    }

    Edge chosen(String row) {
        for (int plugin = 0; plugin < row.length(); plugin++) {
            chosen(plugin, row.charAt(plugin) == '-' ? NONE : row.charAt(plugin) - '0');
        }
        return this;
    }

    Edge blamed(int ask, boolean want) {
        called();
        return due("blamed(" + ask + ")", solver.blamed(ask), want);
    }

    /** A 1 for each ask, from 0 on, that is blamed. */
    Edge blamed(String row) {
        for (int ask = 0; ask < row.length(); ask++) {
            blamed(ask, row.charAt(ask) == '1');
        }
        return this;
    }

    Edge unmet(int want) {
        return answered("unmet()", solver.unmet(), want);
    }

    Edge count(int what, int want) {
        return answered("count(" + what + ")", solver.count(what), want);
    }

    int count(int what) {
        called();
        return solver.count(what);
    }

    int calls() {
        return calls;
    }

    ReleaseSolver solver() {
        return solver;
    }

    private Edge answered(String call, int got, int want) {
        called();
        return due(call, got, want);
    }

    private void called() {
        calls++;
        if (calls == MOST_CALLS + 1) {
            due("the test itself", "more than " + MOST_CALLS + " calls", "no more");
        }
    }

    private static int charAt(String text, int at) {
        return at < text.length() ? text.charAt(at) : 0;
    }
}
