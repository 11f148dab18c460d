/** Promises 4 to 10: release, need, needHost, withdraw, host, ask, unask. */
public final class StockTest {
    private static final Checks CHECKS = new Checks();
    private static final int[] FAR = {-1, 6, 100, Integer.MIN_VALUE, Integer.MAX_VALUE};

    public static void main(String[] args) {
        releaseNumbers();
        releaseAnswersInItsOrder();
        releaseRefuses();
        needCounts();
        needRefuses();
        needHostIsReplaced();
        needHostRefuses();
        withdrawing();
        hostChanges();
        asking();
        askRefuses();
        unasking();
        CHECKS.end();
    }

    private static void releaseNumbers() {
        ReleaseSolver solver = new ReleaseSolver();
        for (int plugin = 0; plugin < 6; plugin++) {
            String[] versions = {"3", "1", "2", "2-rc"};
            for (int i = 0; i < 4; i++) {
                CHECKS.due("release " + versions[i], Checks.release(solver, plugin, versions[i]), i);
                CHECKS.due("release uses the text up", solver.count(0), 0);
            }
        }
        CHECKS.due("all releases", solver.count(2), 24);
        CHECKS.due("the version is kept", solver.compare(5, 0, 5, 2), 1);
    }

    private static void releaseAnswersInItsOrder() {
        ReleaseSolver solver = new ReleaseSolver();
        CHECKS.due("release of an empty text", solver.release(0), ReleaseSolver.BAD);
        CHECKS.due("release of a range", Checks.release(solver, 0, "[1]"), ReleaseSolver.BAD);
        CHECKS.due("a bad text is used up", solver.count(0), 0);
        CHECKS.due("nothing was added", solver.count(2), 0);
        Checks.release(solver, 0, "1");
        CHECKS.due("an equal version", Checks.release(solver, 0, "1.0-ga"), ReleaseSolver.TWICE);
        CHECKS.due("it is used up", solver.count(0), 0);
        CHECKS.due("it is not added", solver.count(2), 1);
        solver.withdraw(0, 0, true);
        CHECKS.due("equal to a withdrawn one", Checks.release(solver, 0, "1"), ReleaseSolver.TWICE);
        CHECKS.due("equal to another plugin's", Checks.release(solver, 1, "1"), 0);
        Checks.releases(solver, 0, "2", "3", "4");
        CHECKS.due("a fifth", Checks.release(solver, 0, "5"), ReleaseSolver.FULL);
        CHECKS.due("it is used up too", solver.count(0), 0);
        CHECKS.due("a fifth that is equal", Checks.release(solver, 0, "4.0"), ReleaseSolver.TWICE);
        CHECKS.due("a fifth that is bad", Checks.release(solver, 0, "4."), ReleaseSolver.BAD);
        CHECKS.due("four stay", solver.count(2), 5);
    }

    private static void releaseRefuses() {
        ReleaseSolver solver = Checks.put(new ReleaseSolver(), "1");
        for (int plugin : FAR) {
            CHECKS.due("release(" + plugin + ")", solver.release(plugin), ReleaseSolver.REFUSED);
        }
        CHECKS.due("the text is left", solver.count(0), 1);
        CHECKS.due("and is good", solver.release(0), 0);
        solver.wipe();
        CHECKS.due("refused before the text is tested", solver.release(6), ReleaseSolver.REFUSED);
    }

    private static void needCounts() {
        ReleaseSolver solver = new ReleaseSolver();
        Checks.releases(solver, 3, "1", "2");
        CHECKS.due("first need", Checks.need(solver, 3, 1, 0, "1"), 1);
        CHECKS.due("need uses the text up", solver.count(0), 0);
        CHECKS.due("a need of its own plugin", Checks.optional(solver, 3, 1, 3, "[1,2]"), 2);
        CHECKS.due("an empty text", solver.need(3, 1, 0, false), ReleaseSolver.BAD);
        CHECKS.due("a bad range", Checks.need(solver, 3, 1, 0, "(1)"), ReleaseSolver.BAD);
        CHECKS.due("a bad range is used up", solver.count(0), 0);
        CHECKS.due("two needs", solver.count(4), 2);
        CHECKS.due("the third need", Checks.need(solver, 3, 1, 0, "(,)"), 3);
        CHECKS.due("the fourth need", Checks.need(solver, 3, 1, 0, "1"), ReleaseSolver.FULL);
        CHECKS.due("it is used up", solver.count(0), 0);
        CHECKS.due("a fourth one that is bad", Checks.need(solver, 3, 1, 0, "1,"), ReleaseSolver.BAD);
        CHECKS.due("another release's first", Checks.need(solver, 3, 0, 5, "1"), 1);
        CHECKS.due("four needs in all", solver.count(4), 4);
    }

    private static void needRefuses() {
        ReleaseSolver solver = new ReleaseSolver();
        Checks.releases(solver, 3, "1");
        Checks.put(solver, "1");
        for (int number : FAR) {
            CHECKS.due("need plugin " + number, solver.need(number, 0, 0, false), ReleaseSolver.REFUSED);
            CHECKS.due("need release " + number, solver.need(3, number, 0, false), ReleaseSolver.REFUSED);
            CHECKS.due("need other " + number, solver.need(3, 0, number, true), ReleaseSolver.REFUSED);
        }
        CHECKS.due("no such release", solver.need(3, 1, 0, false), ReleaseSolver.REFUSED);
        CHECKS.due("a plugin without releases", solver.need(0, 0, 0, false), ReleaseSolver.REFUSED);
        CHECKS.due("the text is left", solver.count(0), 1);
        CHECKS.due("no need was added", solver.count(4), 0);
    }

    private static void needHostIsReplaced() {
        ReleaseSolver solver = new ReleaseSolver();
        Checks.releases(solver, 0, "1");
        Checks.ask(solver, 0, "1");
        CHECKS.due("needHost", Checks.needHost(solver, 0, 0, "[2,3]"), 0);
        CHECKS.due("needHost uses the text up", solver.count(0), 0);
        CHECKS.due("the host is not in it", solver.solve(), ReleaseSolver.NONE);
        CHECKS.due("a bad one", Checks.needHost(solver, 0, 0, "[2"), ReleaseSolver.BAD);
        CHECKS.due("a bad one is used up", solver.count(0), 0);
        CHECKS.due("a bad one changes nothing", solver.solve(), ReleaseSolver.NONE);
        CHECKS.due("another one", Checks.needHost(solver, 0, 0, "[1]"), 0);
        CHECKS.due("in its place", solver.solve(), 1);
        Checks.needHost(solver, 0, 0, "(1,)");
        CHECKS.due("not in it again", solver.solve(), ReleaseSolver.NONE);
        CHECKS.due("an empty text", solver.needHost(0, 0), 0);
        CHECKS.due("no range any more", solver.solve(), 1);
        CHECKS.due("it is no need", solver.count(4), 0);
    }

    private static void needHostRefuses() {
        ReleaseSolver solver = new ReleaseSolver();
        Checks.releases(solver, 0, "1");
        Checks.put(solver, "1");
        for (int number : FAR) {
            CHECKS.due("needHost plugin " + number, solver.needHost(number, 0), ReleaseSolver.REFUSED);
            CHECKS.due("needHost release " + number, solver.needHost(0, number), ReleaseSolver.REFUSED);
        }
        CHECKS.due("no such release", solver.needHost(0, 1), ReleaseSolver.REFUSED);
        CHECKS.due("the text is left", solver.count(0), 1);
    }

    private static void withdrawing() {
        ReleaseSolver solver = new ReleaseSolver();
        Checks.releases(solver, 4, "1", "2");
        Checks.ask(solver, 4, "1");
        Checks.put(solver, "1");
        CHECKS.due("withdraw", solver.withdraw(4, 1, true), 0);
        CHECKS.due("one is withdrawn", solver.count(3), 1);
        solver.solve();
        CHECKS.dueSelection("the other one", solver, "----0-");
        CHECKS.due("withdraw again", solver.withdraw(4, 1, true), 0);
        CHECKS.due("still one", solver.count(3), 1);
        CHECKS.due("not any more", solver.withdraw(4, 1, false), 0);
        CHECKS.due("none is withdrawn", solver.count(3), 0);
        CHECKS.due("not any more again", solver.withdraw(4, 1, false), 0);
        solver.solve();
        CHECKS.dueSelection("it is back", solver, "----1-");
        for (int number : FAR) {
            CHECKS.due("withdraw plugin " + number, solver.withdraw(number, 0, true), ReleaseSolver.REFUSED);
            CHECKS.due("withdraw release " + number, solver.withdraw(4, number, true), ReleaseSolver.REFUSED);
        }
        CHECKS.due("no such release", solver.withdraw(4, 2, true), ReleaseSolver.REFUSED);
        CHECKS.due("none was withdrawn", solver.count(3), 0);
        CHECKS.due("withdraw the first one", solver.withdraw(4, 0, true), 0);
        CHECKS.due("the first one is withdrawn", solver.count(3), 1);
        CHECKS.due("the text is left", solver.count(0), 1);
    }

    private static void hostChanges() {
        ReleaseSolver solver = new ReleaseSolver();
        Checks.releases(solver, 0, "1");
        Checks.needHost(solver, 0, 0, "[2]");
        Checks.ask(solver, 0, "1");
        CHECKS.due("host", Checks.host(solver, "2.0"), 0);
        CHECKS.due("host uses the text up", solver.count(0), 0);
        CHECKS.due("the new host", solver.solve(), 1);
        CHECKS.due("an empty text", solver.host(), ReleaseSolver.BAD);
        CHECKS.due("a range", Checks.host(solver, "[1]"), ReleaseSolver.BAD);
        CHECKS.due("a bad one is used up", solver.count(0), 0);
        CHECKS.due("the host stays", solver.solve(), 1);
        Checks.host(solver, "2.1");
        CHECKS.due("another host", solver.solve(), ReleaseSolver.NONE);
    }

    private static void asking() {
        ReleaseSolver solver = new ReleaseSolver();
        CHECKS.due("ask of an empty text", solver.ask(0), ReleaseSolver.BAD);
        CHECKS.due("ask of a bad range", Checks.ask(solver, 0, "[1"), ReleaseSolver.BAD);
        CHECKS.due("it is used up", solver.count(0), 0);
        for (int i = 0; i < 4; i++) {
            CHECKS.due("ask " + i, Checks.ask(solver, 5 - i, "[,1]"), i);
            CHECKS.due("ask uses the text up", solver.count(0), 0);
        }
        CHECKS.due("a fifth", Checks.ask(solver, 0, "1"), ReleaseSolver.FULL);
        CHECKS.due("it is used up too", solver.count(0), 0);
        CHECKS.due("a fifth that is bad", Checks.ask(solver, 0, "1]"), ReleaseSolver.BAD);
        CHECKS.due("four asks", solver.count(1), 4);
    }

    private static void askRefuses() {
        ReleaseSolver solver = Checks.put(new ReleaseSolver(), "1");
        for (int plugin : FAR) {
            CHECKS.due("ask(" + plugin + ")", solver.ask(plugin), ReleaseSolver.REFUSED);
        }
        CHECKS.due("the text is left", solver.count(0), 1);
        CHECKS.due("no ask was added", solver.count(1), 0);
    }

    private static void unasking() {
        ReleaseSolver solver = new ReleaseSolver();
        for (int plugin = 0; plugin < 4; plugin++) {
            Checks.releases(solver, plugin, "1", "2");
            Checks.ask(solver, plugin, "1");
        }
        Checks.put(solver, "1");
        CHECKS.due("unask(4)", solver.unask(4), ReleaseSolver.REFUSED);
        CHECKS.due("unask(-1)", solver.unask(-1), ReleaseSolver.REFUSED);
        CHECKS.due("unask far", solver.unask(Integer.MAX_VALUE), ReleaseSolver.REFUSED);
        CHECKS.due("unask far below", solver.unask(Integer.MIN_VALUE), ReleaseSolver.REFUSED);
        CHECKS.due("unask(1)", solver.unask(1), 3);
        CHECKS.due("three asks", solver.count(1), 3);
        solver.solve();
        CHECKS.dueSelection("the second is gone", solver, "1-11--");
        CHECKS.due("unask(3) now", solver.unask(3), ReleaseSolver.REFUSED);
        CHECKS.due("the one behind it has its number", solver.unask(1), 2);
        solver.solve();
        CHECKS.dueSelection("the third is gone too", solver, "1--1--");
        CHECKS.due("unask the last", solver.unask(1), 1);
        CHECKS.due("the text is left", solver.count(0), 1);
        solver.wipe();
        CHECKS.due("the next ask's number", Checks.ask(solver, 5, "1"), 1);
        CHECKS.due("unask(0)", solver.unask(0), 1);
        CHECKS.due("unask(0) again", solver.unask(0), 0);
        CHECKS.due("none is left", solver.unask(0), ReleaseSolver.REFUSED);
    }
}
