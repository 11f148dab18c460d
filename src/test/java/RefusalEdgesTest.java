import java.util.ArrayList;
import java.util.List;

/**
 * What wrong calls leave as it was. Two objects are made alike, only one of them has the wrong call, and then both are
 * asked for all that can be seen of them: counts, the last solve, and solves under many hosts, asks and withdrawals.
 */
public final class RefusalEdgesTest {
    private static final String NOTHING_CHANGES = "A call that answers REFUSED, FULL or BAD changes nothing";
    private static final String USES_UP = "but uses up the text where that is said";
    private static final String TESTED_FIRST = "Numbers out of range are REFUSED; this is tested first, before the text";
    private static final int[] NUMBERS = {-1, 6, 4, Integer.MIN_VALUE, Integer.MAX_VALUE};
    private static final String[] NO_VERSIONS = {"", "2.", "[2]", "2..2", "1234567890", "1.2.3.4.5.6.7"};
    private static final String[] NO_RANGES = {"", "[2", "(2)", "2,3", "[2,3,4]", "[2.,3]"};

    /** A call, told with what it must answer. */
    private interface Call {
        int on(ReleaseSolver solver);
    }

    public static void main(String[] args) {
        refusedWrites();
        refusedPlugins();
        refusedReleases();
        refusedAsks();
        refusedLooks();
        fullText();
        fullPlugin();
        fullNeeds();
        fullAsks();
        badVersions();
        badRanges();
        badHostRange();
        twice();
        refusedLeaveTheText();
        badAndFullUseItUp();
        refusedBeforeTheTextIsTested();
        refusedBeforeFull();
        Edge.end();
    }

    /** Solved well; plugins 0 and 1 are full, so are the asks and one release's needs. */
    private static ReleaseSolver solved() {
        ReleaseSolver solver = new ReleaseSolver();
        Checks.releases(solver, 0, "2", "1", "3", "4");
        Checks.releases(solver, 1, "1", "2", "3", "4");
        Checks.releases(solver, 2, "1", "2");
        Checks.releases(solver, 3, "5");
        Checks.need(solver, 0, 3, 1, "[2,3]");
        Checks.need(solver, 0, 3, 2, "(1,)");
        Checks.optional(solver, 0, 3, 3, "[5]");
        Checks.need(solver, 1, 2, 3, "1");
        Checks.needHost(solver, 0, 2, "[3]");
        Checks.needHost(solver, 1, 1, "[1,2]");
        Checks.host(solver, "2");
        solver.withdraw(2, 0, true);
        Checks.ask(solver, 0, "1");
        Checks.ask(solver, 1, "[,3]");
        Checks.ask(solver, 0, "[2,]");
        Checks.ask(solver, 2, "1");
        solver.solve();
        return solver;
    }

    /** Solved in vain, so that there is blame. */
    private static ReleaseSolver unsolved() {
        ReleaseSolver solver = solved();
        solver.unask(3);
        Checks.ask(solver, 3, "9");
        solver.solve();
        return solver;
    }

    /** Solved well, with room for more asks. */
    private static ReleaseSolver roomy() {
        ReleaseSolver solver = solved();
        solver.unask(3);
        solver.unask(0);
        solver.solve();
        return solver;
    }

    private static ReleaseSolver made(int kind) {
        return kind == 0 ? solved() : kind == 1 ? unsolved() : roomy();
    }

    private static void look(ReleaseSolver solver, List<Integer> seen) {
        for (int what = 0; what < 5; what++) {
            seen.add(solver.count(what));
        }
        for (int plugin = 0; plugin < 6; plugin++) {
            seen.add(solver.chosen(plugin));
        }
        for (int ask = 0; ask < 4; ask++) {
            seen.add(solver.blamed(ask) ? 1 : 0);
        }
        seen.add(solver.unmet());
    }

    private static void solveAndLook(ReleaseSolver solver, List<Integer> seen) {
        seen.add(solver.solve());
        look(solver, seen);
    }

    /** All that can be seen of the object; the text is what is read first. */
    private static List<Integer> picture(ReleaseSolver solver) {
        List<Integer> seen = new ArrayList<>();
        look(solver, seen);
        seen.add(solver.rank(1));
        solveAndLook(solver, seen);
        for (String host : new String[] {"1", "3", "9"}) {
            Checks.host(solver, host);
            solveAndLook(solver, seen);
        }
        while (solver.count(1) > 0) {
            seen.add(solver.unask(0));
            solveAndLook(solver, seen);
        }
        Checks.host(solver, "2");
        for (int plugin = 0; plugin < 6; plugin++) {
            seen.add(Checks.ask(solver, plugin, "(,)"));
            for (int release = 3; release >= 0; release--) {
                seen.add(solver.compare(plugin, release, 0, 0));
                seen.add(solver.solve());
                seen.add(solver.chosen(plugin) * 10 + solver.chosen(1));
                seen.add(solver.withdraw(plugin, release, true));
            }
            for (int release = 0; release < 4; release++) {
                solver.withdraw(plugin, release, false);
            }
            solver.unask(0);
        }
        return seen;
    }

    /** The call answers so, and leaves all kinds of object as they were; the text is written before it. */
    private static void changesNothing(Edge edge, String told, String text, boolean usesUp, int want, Call call) {
        int kinds = want == Edge.FULL ? 2 : 3;
        for (int kind = 0; kind < kinds; kind++) {
            ReleaseSolver called = made(kind);
            ReleaseSolver twin = made(kind);
            Checks.put(called, text);
            edge.due(told + " with " + text, call.on(called), want);
            if (!usesUp) {
                Checks.put(twin, text);
            }
            edge.due("all that is seen after " + told + " with " + text, picture(called), picture(twin));
        }
    }

    private static void refused(Edge edge, String told, Call call) {
        changesNothing(edge, told, "1.0-rc", false, Edge.REFUSED, call);
        changesNothing(edge, told, "[1", false, Edge.REFUSED, call);
        changesNothing(edge, told, "", false, Edge.REFUSED, call);
    }

    private static void refusedWrites() {
        Edge edge = Edge.of(NOTHING_CHANGES);
        refused(edge, "write('!', '1', '1', '1')", solver -> solver.write('!', '1', '1', '1'));
        refused(edge, "write('1', '1', '1', '!')", solver -> solver.write('1', '1', '1', '!'));
        refused(edge, "write(0, -1, 0, '1')", solver -> solver.write(0, -1, 0, '1'));
    }

    private static void refusedPlugins() {
        Edge edge = Edge.of(NOTHING_CHANGES);
        for (int plugin : Edge.noPlugins()) {
            refused(edge, "release(" + plugin + ")", solver -> solver.release(plugin));
            refused(edge, "ask(" + plugin + ")", solver -> solver.ask(plugin));
            refused(edge, "chosen(" + plugin + ")", solver -> solver.chosen(plugin));
        }
    }

    private static void refusedReleases() {
        Edge edge = Edge.of(NOTHING_CHANGES);
        for (int number : NUMBERS) {
            // Plugins 4 and 5 have no release, the others at most four: every one of these pairs is wrong.
            refused(edge, "need(" + number + ", 0, 1)", solver -> solver.need(number, 0, 1, false));
            refused(edge, "need(0, " + number + ", 1)", solver -> solver.need(0, number, 1, false));
            refused(edge, "needHost(" + number + ", 0)", solver -> solver.needHost(number, 0));
            refused(edge, "needHost(0, " + number + ")", solver -> solver.needHost(0, number));
            refused(edge, "withdraw(" + number + ", 0)", solver -> solver.withdraw(number, 0, true));
            refused(edge, "withdraw(0, " + number + ")", solver -> solver.withdraw(0, number, true));
            refused(edge, "within(" + number + ", 0)", solver -> solver.within(number, 0));
            refused(edge, "within(0, " + number + ")", solver -> solver.within(0, number));
        }
        for (int number : Edge.noPlugins()) {
            refused(edge, "need(1, 0, " + number + ")", solver -> solver.need(1, 0, number, false));
        }
        refused(edge, "withdraw(2, 2, false)", solver -> solver.withdraw(2, 2, false));
        refused(edge, "needHost(3, 1)", solver -> solver.needHost(3, 1));
    }

    private static void refusedAsks() {
        Edge edge = Edge.of(NOTHING_CHANGES);
        for (int ask : NUMBERS) {
            refused(edge, "unask(" + ask + ")", solver -> solver.unask(ask));
        }
    }

    private static void refusedLooks() {
        Edge edge = Edge.of(NOTHING_CHANGES);
        for (int number : new int[] {-1, 5, Integer.MIN_VALUE, Integer.MAX_VALUE}) {
            refused(edge, "count(" + number + ")", solver -> solver.count(number));
            Call compare = solver -> solver.compare(0, 0, 0, number);
            changesNothing(edge, "compare(0, 0, 0, " + number + ")", "1.0-rc", false, Edge.NOT_COMPARED, compare);
        }
    }

    private static void fullText() {
        Edge edge = Edge.of(NOTHING_CHANGES);
        changesNothing(edge, "write of 25", "123456789.123456789.1234", false, Edge.FULL, solver -> solver.write('1', 0, 0,
                0));
        changesNothing(edge, "write of 25", "123456789.123456789.1", false, Edge.FULL, solver -> solver.write('1', '1', '1',
                '1'));
    }

    private static void fullPlugin() {
        Edge edge = Edge.of(NOTHING_CHANGES);
        changesNothing(edge, "release(0)", "5", true, Edge.FULL, solver -> solver.release(0));
        changesNothing(edge, "release(0)", "0", true, Edge.FULL, solver -> solver.release(0));
        changesNothing(edge, "release(1)", "2.5", true, Edge.FULL, solver -> solver.release(1));
    }

    private static void fullNeeds() {
        Edge edge = Edge.of(NOTHING_CHANGES);
        changesNothing(edge, "need(0, 3, 4)", "9", true, Edge.FULL, solver -> solver.need(0, 3, 4, false));
        changesNothing(edge, "need(0, 3, 1)", "[9]", true, Edge.FULL, solver -> solver.need(0, 3, 1, true));
    }

    private static void fullAsks() {
        Edge edge = Edge.of(NOTHING_CHANGES);
        changesNothing(edge, "ask(0)", "[9]", true, Edge.FULL, solver -> solver.ask(0));
        changesNothing(edge, "ask(5)", "1", true, Edge.FULL, solver -> solver.ask(5));
    }

    private static void badVersions() {
        Edge edge = Edge.of(NOTHING_CHANGES);
        for (String text : NO_VERSIONS) {
            changesNothing(edge, "release(2)", text, true, Edge.BAD, solver -> solver.release(2));
            changesNothing(edge, "host()", text, true, Edge.BAD, ReleaseSolver::host);
            changesNothing(edge, "rank(0)", text, true, Edge.BAD, solver -> solver.rank(0));
        }
    }

    private static void badRanges() {
        Edge edge = Edge.of(NOTHING_CHANGES);
        for (String text : NO_RANGES) {
            changesNothing(edge, "need(1, 0, 4)", text, true, Edge.BAD, solver -> solver.need(1, 0, 4, false));
            changesNothing(edge, "within(1, 0)", text, true, Edge.BAD, solver -> solver.within(1, 0));
            changesNothing(edge, "ask(0)", text, true, Edge.BAD, solver -> solver.ask(0));
        }
    }

    private static void badHostRange() {
        Edge edge = Edge.of(NOTHING_CHANGES);
        for (String text : NO_RANGES) {
            if (!text.isEmpty()) {
                changesNothing(edge, "needHost(0, 2)", text, true, Edge.BAD, solver -> solver.needHost(0, 2));
                changesNothing(edge, "needHost(0, 3)", text, true, Edge.BAD, solver -> solver.needHost(0, 3));
            }
        }
    }

    private static void twice() {
        Edge edge = Edge.of("BAD if it is none, TWICE");
        changesNothing(edge, "release(2)", "1.0", true, Edge.TWICE, solver -> solver.release(2));
        changesNothing(edge, "release(0)", "4-ga", true, Edge.TWICE, solver -> solver.release(0));
    }

    private static void refusedLeaveTheText() {
        Edge edge = Edge.of(USES_UP).releases(0, "1").text("1.0");
        edge.release(6, "", Edge.REFUSED).count(0, 3).need(6, 0, 0, "", Edge.REFUSED).count(0, 3)
                .need(0, 1, 0, "", Edge.REFUSED);
        edge.count(0, 3).need(0, 0, 6, "", Edge.REFUSED).count(0, 3).needHost(0, 1, "", Edge.REFUSED).count(0, 3);
        edge.withdraw(0, 1, true, Edge.REFUSED).count(0, 3).ask(6, "", Edge.REFUSED).count(0, 3).unask(0, Edge.REFUSED)
                .count(0, 3);
        edge.compare(0, 0, 0, 1, Edge.NOT_COMPARED).count(0, 3).within(0, 1, "", Edge.REFUSED).count(0, 3)
                .chosen(6, Edge.REFUSED);
        edge.count(0, 3).write('!', 0, 0, 0, Edge.REFUSED).count(0, 3).count(5, Edge.REFUSED).within(0, 0, "", 1);
    }

    private static void badAndFullUseItUp() {
        Edge edge = Edge.of(USES_UP).releases(0, "1").release(0, "1.", Edge.BAD).count(0, 0).need(0, 0, 0, "[1", Edge.BAD)
                .count(0, 0);
        edge.needHost(0, 0, "[1", Edge.BAD).count(0, 0).host("1.", Edge.BAD).count(0, 0).ask(0, "[1", Edge.BAD).count(0, 0);
        edge.rank("1.", 0, Edge.BAD).count(0, 0).within(0, 0, "[1", Edge.BAD).count(0, 0);
        edge.release(0, "1", Edge.TWICE).count(0, 0).release(0, "2", 1).release(0, "3", 2).release(0, "4", 3);
        edge.release(0, "5", Edge.FULL).count(0, 0).need(0, 0, 0, "1", 1).need(0, 0, 0, "1", 2).need(0, 0, 0, "1", 3);
        edge.need(0, 0, 0, "1", Edge.FULL).count(0, 0).ask(0, "1", 0).ask(0, "1", 1).ask(0, "1", 2).ask(0, "1", 3);
        edge.ask(0, "1", Edge.FULL).count(0, 0).text("123456789.123456789.1234").write('1', 0, 0, 0, Edge.FULL).count(0, 24);
    }

    private static void refusedBeforeTheTextIsTested() {
        Edge edge = Edge.of(TESTED_FIRST);
        for (String text : new String[] {"", "[1", "1..2", "(1)", "1234567890"}) {
            edge.anew().releases(0, "1").text(text).release(6, "", Edge.REFUSED).release(-1, "", Edge.REFUSED);
            edge.need(6, 0, 0, "", Edge.REFUSED).need(0, 1, 0, "", Edge.REFUSED).need(0, 0, 6, "", Edge.REFUSED);
            edge.need(-1, 0, 0, "", Edge.REFUSED).need(0, -1, 0, "", Edge.REFUSED).optional(0, 0, -1, "", Edge.REFUSED);
            edge.needHost(6, 0, "", Edge.REFUSED).needHost(0, 1, "", Edge.REFUSED).needHost(-1, 0, "", Edge.REFUSED);
            edge.needHost(0, -1, "", Edge.REFUSED).ask(6, "", Edge.REFUSED).ask(-1, "", Edge.REFUSED);
            edge.within(6, 0, "", Edge.REFUSED).within(0, 1, "", Edge.REFUSED).within(-1, 0, "", Edge.REFUSED);
            edge.within(0, -1, "", Edge.REFUSED).wipe(text.length());
        }
    }

    private static void refusedBeforeFull() {
        Edge edge = Edge.of("this is tested first").releases(0, "1", "2", "3", "4").need(0, 0, 0, "1", 1)
                .need(0, 0, 0, "1", 2);
        edge.need(0, 0, 0, "1", 3).ask(0, "1", 0).ask(0, "1", 1).ask(0, "1", 2).ask(0, "1", 3).text("1");
        edge.need(0, 0, 6, "", Edge.REFUSED).need(0, 4, 0, "", Edge.REFUSED).ask(6, "", Edge.REFUSED)
                .release(6, "", Edge.REFUSED);
        edge.wipe(1).need(0, 0, 0, "1", Edge.FULL).ask(0, "1", Edge.FULL).release(0, "5", Edge.FULL);
    }
}
