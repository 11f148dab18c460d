/** Promise 13: within, and what a range is. */
public final class RangeTest {
    private static final Checks CHECKS = new Checks();
    private static final String[] VERSIONS = {"1", "1.5", "2", "2.5"};

    public static void main(String[] args) {
        holding();
        badRanges();
        wrongNumbers();
        withdrawnReleasesAreTestedToo();
        CHECKS.end();
    }

    private static ReleaseSolver solver() {
        ReleaseSolver solver = new ReleaseSolver();
        Checks.releases(solver, 2, VERSIONS);
        return solver;
    }

    /** The row has a 1 for each of VERSIONS that is in the range. */
    private static void due(String range, String row) {
        ReleaseSolver solver = solver();
        for (int release = 0; release < row.length(); release++) {
            int got = Checks.within(solver, 2, release, range);
            CHECKS.due(VERSIONS[release] + " within " + range, got, row.charAt(release) - '0');
            CHECKS.due("within uses the text up", solver.count(0), 0);
        }
    }

    private static void holding() {
        due("1.5", "0111");
        due("1.5.0", "0111");
        due("x", "1111");
        due("3", "0000");
        due("[1.5]", "0100");
        due("[1.5-ga]", "0100");
        due("[1.7]", "0000");
        due("[1.5,2]", "0110");
        due("(1.5,2]", "0010");
        due("[1.5,2)", "0100");
        due("(1.5,2)", "0000");
        due("(1,2.5)", "0110");
        due("(1.0,2.5.0)", "0110");
        due("[1.5,]", "0111");
        due("[1.5,)", "0111");
        due("(1.5,]", "0011");
        due("(1.5,)", "0011");
        due("[,2]", "1110");
        due("(,2]", "1110");
        due("[,2)", "1100");
        due("(,2)", "1100");
        due("[,]", "1111");
        due("(,)", "1111");
        due("[,)", "1111");
        due("(,]", "1111");
        due("[2,1]", "0000");
        due("[2,2]", "0010");
        due("(2,2]", "0000");
        due("[2,2)", "0000");
        due("[2-alpha,2-sp]", "0010");
        due("[1.1.1.1.1,2.0.0.0.0.0]", "0110");
        due("[123456789ab,1.1.1.1.1]", "0000");
        due("[2.5-rc,123456789.12]", "0001");
    }

    private static void badRanges() {
        String[] bad = {"", "[", "]", "(", ")", ",", "[]", "()", "[)", "(]", "(1)", "[1)", "(1]", "[1", "1]", "(1", "1)",
            "1,2", "[1,2", "1,2]", "[1,2,3]", "[,,]", "[1,,2]", "[[1]]", "[1],", ",[1]", "[1.]", "[.1]", "[1..2]", "[1,.2]",
            "[1,2.]", "[-,1]", "1..2", ".1", "1-", "[1234567890]", "[1,1234567890]", "[1.2.3.4.5.678]", "[1.2.3.4.5.678,]",
            "[,1.2.3.4.5.678]", "[1]2", "2[1]", "[1)2]", "][", "]1[", ")1,2(", "]1,2[", "[1,[2]", "1.2.3.4.5.678", "[(1,2])"};
        ReleaseSolver solver = solver();
        for (String range : bad) {
            CHECKS.due("within " + range, Checks.within(solver, 2, 0, range), ReleaseSolver.BAD);
            CHECKS.due("within uses up " + range, solver.count(0), 0);
        }
    }

    private static void wrongNumbers() {
        ReleaseSolver solver = Checks.put(solver(), "[1");
        int[][] wrong = {{-1, 0}, {6, 0}, {2, -1}, {2, 4}, {0, 0}, {3, 0}, {Integer.MIN_VALUE, Integer.MAX_VALUE}};
        for (int[] pair : wrong) {
            int got = solver.within(pair[0], pair[1]);
            CHECKS.due("within(" + pair[0] + ", " + pair[1] + ")", got, ReleaseSolver.REFUSED);
        }
        CHECKS.due("a refused call leaves the text", solver.count(0), 2);
    }

    private static void withdrawnReleasesAreTestedToo() {
        ReleaseSolver solver = solver();
        solver.withdraw(2, 0, true);
        CHECKS.due("within of a withdrawn release", Checks.within(solver, 2, 0, "1"), 1);
    }
}
