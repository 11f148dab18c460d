/** Promises 14 to 17: solve, chosen, blamed, unmet. */
public final class SolveTest {
    private static final Checks CHECKS = new Checks();

    public static void main(String[] args) {
        nothingAsked();
        greatestVersion();
        earlierPluginsFirst();
        havingIsBetterThanNone();
        needsAreMet();
        optionalNeeds();
        ownNeeds();
        ledTo();
        hostOfNeededReleases();
        withdrawnReleases();
        chosenKeepsTheLastSelection();
        blame();
        blameByRisingNumber();
        blameOfTwo();
        blameIsKept();
        unmet();
        solveLeavesTheText();
        CHECKS.end();
    }

    /** A solver whose plugins all have the releases 1, 2, 3, 4 by number 0 .. 3. */
    private static ReleaseSolver stocked() {
        ReleaseSolver solver = new ReleaseSolver();
        for (int plugin = 0; plugin < 6; plugin++) {
            Checks.releases(solver, plugin, "1", "2", "3", "4");
        }
        return solver;
    }

    private static void solveDue(String told, ReleaseSolver solver, int want, String selection) {
        CHECKS.due(told, solver.solve(), want);
        CHECKS.dueSelection(told, solver, selection);
    }

    private static void blameDue(String told, ReleaseSolver solver, String row) {
        CHECKS.due(told, solver.solve(), ReleaseSolver.NONE);
        for (int ask = 0; ask < 4; ask++) {
            CHECKS.due(told + ": blamed(" + ask + ")", solver.blamed(ask), row.charAt(ask) == '1');
        }
    }

    private static void nothingAsked() {
        solveDue("nothing asked of nothing", new ReleaseSolver(), 0, "------");
        ReleaseSolver solver = stocked();
        Checks.need(solver, 0, 3, 1, "9");
        solveDue("nothing asked", solver, 0, "------");
        CHECKS.due("chosen(6)", solver.chosen(6), ReleaseSolver.REFUSED);
        CHECKS.due("chosen(-1)", solver.chosen(-1), ReleaseSolver.REFUSED);
        CHECKS.due("chosen far", solver.chosen(Integer.MAX_VALUE), ReleaseSolver.REFUSED);
        CHECKS.due("chosen far below", solver.chosen(Integer.MIN_VALUE), ReleaseSolver.REFUSED);
    }

    private static void greatestVersion() {
        ReleaseSolver solver = new ReleaseSolver();
        Checks.releases(solver, 0, "1.10", "1.9", "1.10-rc", "1.2");
        Checks.releases(solver, 1, "1-rc", "1-sp", "1", "1-beta");
        Checks.ask(solver, 0, "1");
        Checks.ask(solver, 1, "(,)");
        solveDue("the greatest, not the last", solver, 2, "01----");
        Checks.ask(solver, 0, "[1,1.10)");
        solveDue("the greatest in both ranges", solver, 2, "21----");
        Checks.ask(solver, 0, "[1,1.10-rc)");
        solveDue("the greatest in three ranges", solver, 2, "11----");
    }

    private static void earlierPluginsFirst() {
        ReleaseSolver solver = stocked();
        Checks.need(solver, 0, 3, 1, "[1]");
        Checks.need(solver, 0, 2, 1, "[4]");
        Checks.ask(solver, 1, "1");
        Checks.ask(solver, 0, "1");
        solveDue("the best of plugin 0 before that of plugin 1", solver, 2, "30----");
        Checks.need(solver, 5, 3, 0, "[2]");
        Checks.ask(solver, 5, "1");
        solveDue("and before that of plugin 5", solver, 3, "30---2");
    }

    private static void havingIsBetterThanNone() {
        ReleaseSolver solver = stocked();
        Checks.need(solver, 2, 1, 0, "[1]");
        Checks.ask(solver, 2, "1");
        solveDue("a less release leads to plugin 0", solver, 2, "0-1---");
        Checks.need(solver, 2, 0, 0, "[2]");
        solveDue("another one leads to a greater release of it", solver, 2, "1-0---");
    }

    private static void needsAreMet() {
        ReleaseSolver solver = stocked();
        Checks.need(solver, 0, 3, 1, "[2,3]");
        Checks.need(solver, 1, 2, 2, "[1,4)");
        Checks.need(solver, 1, 2, 3, "5");
        Checks.ask(solver, 0, "1");
        solveDue("a need of a need can't be met", solver, 2, "31----");
        Checks.need(solver, 0, 3, 1, "3");
        solveDue("two needs of one plugin", solver, 1, "2-----");
        Checks.ask(solver, 0, "4");
        solveDue("no way", solver, ReleaseSolver.NONE, "------");
    }

    private static void optionalNeeds() {
        ReleaseSolver solver = stocked();
        Checks.optional(solver, 3, 3, 1, "[2]");
        Checks.ask(solver, 3, "1");
        solveDue("an optional need does not lead to a plugin", solver, 1, "---3--");
        Checks.ask(solver, 1, "1");
        solveDue("it binds the release of an earlier plugin", solver, 2, "-3-2--");
        Checks.ask(solver, 3, "4");
        solveDue("and the other way round", solver, 2, "-1-3--");
        Checks.ask(solver, 1, "[3]");
        solveDue("it can't be met", solver, ReleaseSolver.NONE, "------");
    }

    private static void ownNeeds() {
        ReleaseSolver solver = stocked();
        Checks.need(solver, 0, 3, 0, "[1]");
        Checks.optional(solver, 0, 2, 0, "[1]");
        Checks.need(solver, 0, 1, 0, "[2]");
        Checks.ask(solver, 0, "1");
        solveDue("a release must itself be what it needs", solver, 1, "1-----");
        solver = stocked();
        Checks.need(solver, 1, 3, 1, "1");
        Checks.ask(solver, 2, "1");
        solveDue("a plugin does not lead to itself", solver, 1, "--3---");
    }

    private static void ledTo() {
        ReleaseSolver solver = stocked();
        Checks.need(solver, 0, 3, 1, "1");
        Checks.need(solver, 1, 3, 0, "1");
        Checks.ask(solver, 5, "1");
        solveDue("two that lead to each other only", solver, 1, "-----3");
        Checks.need(solver, 5, 0, 4, "[1]");
        Checks.need(solver, 4, 0, 3, "[1]");
        Checks.need(solver, 3, 0, 2, "[1]");
        Checks.need(solver, 2, 0, 1, "[4]");
        solveDue("a chain through all", solver, 6, "330000");
        Checks.optional(solver, 3, 0, 4, "[2]");
        solveDue("the chain is broken", solver, 1, "-----3");
    }

    private static void hostOfNeededReleases() {
        ReleaseSolver solver = stocked();
        Checks.need(solver, 0, 3, 1, "3");
        Checks.needHost(solver, 1, 3, "2");
        Checks.ask(solver, 0, "1");
        solveDue("the host is not in the needed release's range", solver, 2, "32----");
        Checks.needHost(solver, 1, 2, "[,1)");
        solveDue("in none of them", solver, 1, "2-----");
        Checks.host(solver, "2");
        solveDue("the host is in it now", solver, 2, "33----");
        Checks.needHost(solver, 5, 3, "9");
        solveDue("an unused release's range does not matter", solver, 2, "33----");
    }

    private static void withdrawnReleases() {
        ReleaseSolver solver = stocked();
        Checks.need(solver, 0, 3, 1, "3");
        Checks.ask(solver, 0, "1");
        solver.withdraw(1, 3, true);
        solveDue("the needed one is withdrawn", solver, 2, "32----");
        solver.withdraw(1, 2, true);
        solveDue("both are", solver, 1, "2-----");
        for (int i = 0; i < 3; i++) {
            solver.withdraw(0, i, true);
        }
        solveDue("all others are", solver, ReleaseSolver.NONE, "------");
        solver.withdraw(1, 3, false);
        solveDue("one is back", solver, 2, "33----");
    }

    private static void chosenKeepsTheLastSelection() {
        ReleaseSolver solver = stocked();
        Checks.ask(solver, 0, "1");
        solver.solve();
        solver.withdraw(0, 3, true);
        solver.unask(0);
        CHECKS.dueSelection("changes without a solve", solver, "3-----");
        Checks.ask(solver, 0, "9");
        CHECKS.dueSelection("and more of them", solver, "3-----");
        solveDue("a solve that answers NONE", solver, ReleaseSolver.NONE, "------");
    }

    private static void blame() {
        ReleaseSolver solver = stocked();
        Checks.ask(solver, 0, "1");
        Checks.ask(solver, 1, "5");
        Checks.ask(solver, 2, "1");
        blameDue("one ask alone", solver, "0100");
        solver.unask(1);
        CHECKS.due("solved again", solver.solve(), 2);
        for (int ask = 0; ask < 4; ask++) {
            CHECKS.due("no blame behind a solve that went well", solver.blamed(ask), false);
        }
    }

    private static void blameByRisingNumber() {
        ReleaseSolver solver = stocked();
        Checks.ask(solver, 0, "5");
        Checks.ask(solver, 1, "5");
        Checks.ask(solver, 2, "5");
        blameDue("the last of three that can't be met", solver, "0010");
        Checks.ask(solver, 3, "1");
        blameDue("and one that can", solver, "0010");
        solver.unask(3);
        Checks.ask(solver, 0, "[1]");
        blameDue("the third again", solver, "0010");
        CHECKS.due("blamed(-1)", solver.blamed(-1), false);
        CHECKS.due("blamed(4)", solver.blamed(4), false);
        CHECKS.due("blamed(32 + 2)", solver.blamed(34), false);
        CHECKS.due("blamed far", solver.blamed(Integer.MAX_VALUE), false);
        CHECKS.due("blamed far below", solver.blamed(Integer.MIN_VALUE), false);
    }

    private static void blameOfTwo() {
        ReleaseSolver solver = stocked();
        Checks.ask(solver, 0, "[1]");
        Checks.ask(solver, 1, "1");
        Checks.ask(solver, 0, "[2]");
        blameDue("two ranges without a common version", solver, "1010");
        Checks.ask(solver, 0, "[3]");
        blameDue("the first of three is left out", solver, "0011");
        solver = stocked();
        for (int i = 0; i < 4; i++) {
            Checks.need(solver, 0, i, 2, "[1]");
            Checks.need(solver, 1, i, 2, "[2]");
        }
        Checks.ask(solver, 1, "1");
        Checks.ask(solver, 3, "1");
        Checks.ask(solver, 4, "1");
        Checks.ask(solver, 0, "1");
        blameDue("two whose needs do not go together", solver, "1001");
    }

    private static void blameIsKept() {
        ReleaseSolver solver = stocked();
        Checks.ask(solver, 0, "1");
        Checks.ask(solver, 1, "5");
        blameDue("the second", solver, "0100");
        solver.unask(0);
        CHECKS.due("the numbers are those of then", solver.blamed(1), true);
        CHECKS.due("the first was not blamed", solver.blamed(0), false);
        solver.unask(0);
        CHECKS.due("both asks are gone", solver.blamed(1), true);
        CHECKS.due("a solve of nothing", solver.solve(), 0);
        CHECKS.due("the blame is gone", solver.blamed(1), false);
    }

    private static void unmet() {
        ReleaseSolver solver = stocked();
        CHECKS.due("before the first solve", solver.unmet(), ReleaseSolver.NONE);
        Checks.ask(solver, 0, "1");
        CHECKS.due("still before the first solve", solver.unmet(), ReleaseSolver.NONE);
        solver.solve();
        CHECKS.due("all are met", solver.unmet(), 0);
        Checks.ask(solver, 1, "1");
        CHECKS.due("a plugin without a release", solver.unmet(), 1);
        Checks.ask(solver, 0, "[3]");
        CHECKS.due("another range", solver.unmet(), 2);
        Checks.ask(solver, 0, "[4]");
        CHECKS.due("one that is met", solver.unmet(), 2);
        solver.withdraw(0, 3, true);
        Checks.host(solver, "9");
        Checks.release(solver, 0, "5");
        CHECKS.due("what changed since does not count", solver.unmet(), 2);
        CHECKS.due("they can't be met", solver.solve(), ReleaseSolver.NONE);
        CHECKS.due("behind such a solve", solver.unmet(), ReleaseSolver.NONE);
        solver.unask(0);
        CHECKS.due("an unask is no solve", solver.unmet(), ReleaseSolver.NONE);
        for (int i = 0; i < 3; i++) {
            solver.unask(0);
        }
        CHECKS.due("nothing is asked", solver.unmet(), ReleaseSolver.NONE);
        solver.solve();
        CHECKS.due("nothing is unmet", solver.unmet(), 0);
        Checks.ask(solver, 5, "(,)");
        CHECKS.due("an ask of an empty selection", solver.unmet(), 1);
    }

    private static void solveLeavesTheText() {
        ReleaseSolver solver = Checks.put(stocked(), "[1,");
        solver.solve();
        solver.chosen(0);
        solver.blamed(0);
        solver.unmet();
        CHECKS.due("the text is left", solver.count(0), 3);
    }
}
