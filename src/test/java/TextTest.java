/** Promises 1 to 3 and 18: a new object, write, wipe, count. */
public final class TextTest {
    private static final Checks CHECKS = new Checks();
    private static final String WRITABLE = "0123456789abcdefghijklmnopqrstuvwxyz.-[](),";

    public static void main(String[] args) {
        newObject();
        writeTakesTheDocumentsCharacters();
        writeSkipsZeros();
        writeRefusesBeforeItIsFull();
        writeIsFullAboveTwentyFour();
        wipeEmptiesTheText();
        countCounts();
        CHECKS.end();
    }

    private static void newObject() {
        ReleaseSolver solver = new ReleaseSolver();
        for (int what = 0; what < 5; what++) {
            CHECKS.due("new: count(" + what + ")", solver.count(what), 0);
        }
        CHECKS.due("new: unmet", solver.unmet(), ReleaseSolver.NONE);
        CHECKS.dueSelection("new", solver, "------");
        for (int ask = -1; ask < 5; ask++) {
            CHECKS.due("new: blamed(" + ask + ")", solver.blamed(ask), false);
        }
        CHECKS.due("new: wipe", solver.wipe(), 0);
        CHECKS.due("new: unask", solver.unask(0), ReleaseSolver.REFUSED);
        Checks.release(solver, 0, "1");
        Checks.needHost(solver, 0, 0, "[1]");
        Checks.ask(solver, 0, "1");
        CHECKS.due("new: the host is 1", solver.solve(), 1);
    }

    private static void writeTakesTheDocumentsCharacters() {
        for (int character = -300; character <= 70000; character++) {
            boolean allowed = character == 0 || character > 0 && WRITABLE.indexOf(character) >= 0;
            int want = !allowed ? ReleaseSolver.REFUSED : character == 0 ? 0 : 1;
            ReleaseSolver solver = new ReleaseSolver();
            CHECKS.due("write(" + character + ", 0, 0, 0)", solver.write(character, 0, 0, 0), want);
        }
        int[] far = {Integer.MIN_VALUE, Integer.MAX_VALUE, 65536 + '1', 'A', 'Z', ' ', '+', '_', '/', ':', '`', '{'};
        for (int character : far) {
            ReleaseSolver solver = Checks.put(new ReleaseSolver(), "1");
            CHECKS.due("write(" + character + ") first", solver.write(character, '1', '1', '1'), -1);
            CHECKS.due("write(" + character + ") second", solver.write('1', character, '1', '1'), -1);
            CHECKS.due("write(" + character + ") third", solver.write('1', '1', character, '1'), -1);
            CHECKS.due("write(" + character + ") fourth", solver.write('1', '1', '1', character), -1);
            CHECKS.due("a refused write changes nothing", solver.count(0), 1);
        }
    }

    private static void writeSkipsZeros() {
        ReleaseSolver solver = new ReleaseSolver();
        CHECKS.due("write of nothing", solver.write(0, 0, 0, 0), 0);
        CHECKS.due("write(0, 'r', 0, 'c')", solver.write(0, 'r', 0, 'c'), 2);
        CHECKS.due("the order is kept: rc", solver.rank(0), 4);
        CHECKS.due("write(0, 0, 0, 's')", solver.write(0, 0, 0, 's'), 1);
        CHECKS.due("write('p', 0, 0, 0)", solver.write('p', 0, 0, 0), 2);
        CHECKS.due("appended: sp", solver.rank(0), 7);
        solver.write('b', 'e', 't', 'a');
        CHECKS.due("four in their order: beta", solver.rank(0), 2);
    }

    private static void writeRefusesBeforeItIsFull() {
        ReleaseSolver solver = Checks.put(new ReleaseSolver(), "123456781234567812345678");
        CHECKS.due("a wrong character in a full text", solver.write('1', 0, 0, '!'), ReleaseSolver.REFUSED);
        CHECKS.due("a right one in a full text", solver.write(0, 0, 0, '1'), ReleaseSolver.FULL);
    }

    private static void writeIsFullAboveTwentyFour() {
        ReleaseSolver solver = Checks.put(new ReleaseSolver(), "1234567812345678123456");
        CHECKS.due("22 characters", solver.count(0), 22);
        CHECKS.due("three more", solver.write('1', '1', 0, '1'), ReleaseSolver.FULL);
        CHECKS.due("nothing was appended", solver.count(0), 22);
        CHECKS.due("two more", solver.write('1', 0, 0, '1'), 24);
        CHECKS.due("nothing more", solver.write(0, 0, 0, 0), 24);
        CHECKS.due("one more", solver.write('1', 0, 0, 0), ReleaseSolver.FULL);
        CHECKS.due("wipe of 24", solver.wipe(), 24);
    }

    private static void wipeEmptiesTheText() {
        ReleaseSolver solver = Checks.put(new ReleaseSolver(), "[1");
        CHECKS.due("wipe", solver.wipe(), 2);
        CHECKS.due("wiped", solver.count(0), 0);
        CHECKS.due("wipe again", solver.wipe(), 0);
        CHECKS.due("nothing is left of the old text", Checks.rank(solver, "1", 0), 9);
    }

    private static void countCounts() {
        ReleaseSolver solver = new ReleaseSolver();
        Checks.releases(solver, 0, "1", "2");
        Checks.releases(solver, 5, "1", "2", "3");
        Checks.need(solver, 0, 0, 1, "1");
        Checks.optional(solver, 5, 2, 1, "1");
        Checks.need(solver, 5, 2, 1, "1");
        Checks.needHost(solver, 5, 1, "1");
        Checks.ask(solver, 3, "1");
        Checks.ask(solver, 3, "1");
        solver.withdraw(0, 1, true);
        solver.withdraw(5, 2, true);
        solver.withdraw(5, 2, true);
        Checks.put(solver, "([,])");
        CHECKS.due("count(0)", solver.count(0), 5);
        CHECKS.due("count(1)", solver.count(1), 2);
        CHECKS.due("count(2)", solver.count(2), 5);
        CHECKS.due("count(3)", solver.count(3), 2);
        CHECKS.due("count(4)", solver.count(4), 3);
        int[] wrong = {-1, 5, 6, Integer.MIN_VALUE, Integer.MAX_VALUE};
        for (int what : wrong) {
            CHECKS.due("count(" + what + ")", solver.count(what), ReleaseSolver.REFUSED);
        }
        CHECKS.due("count leaves the text", solver.count(0), 5);
    }
}
