/** Promises 11 and 12: compare and rank, and what a version is. */
public final class VersionTest {
    private static final Checks CHECKS = new Checks();

    public static void main(String[] args) {
        whatAVersionIs();
        ranksOfWords();
        ranksOfNumbers();
        itemsInTheirOrder();
        rankOfMissingItems();
        rankUsesTheTextUp();
        comparing();
        compareRefuses();
        compareLeavesTheText();
        CHECKS.end();
    }

    private static void rankDue(String version, int item, int want) {
        CHECKS.due("rank(" + item + ") of " + version, Checks.rank(new ReleaseSolver(), version, item), want);
    }

    private static void whatAVersionIs() {
        String[] bad = {"", ".", "-", ".1", "1.", "-1", "1-", "1..2", "1--2", "1.-2", "1-.2", "1234567890", "a1234567890",
            "1234567890.1", "0000000000", "1.2.3.4.5.678", "abcdefghijklm", "1[", "[1]", "1,2", "(1", "1)", "1]", ","};
        for (String version : bad) {
            rankDue(version, 0, ReleaseSolver.BAD);
            rankDue(version, -1, ReleaseSolver.BAD);
            rankDue(version, 99, ReleaseSolver.BAD);
        }
        String[] good = {"1", "123456789", "1.2-3.4", "12345678.123", "123456789a12", "1.2.3.4.5.67", "1a1a1a1a1a1a"};
        for (String version : good) {
            rankDue(version, 0, 9);
        }
        rankDue("abcdefghijkl", 0, 8);
    }

    private static void ranksOfWords() {
        String[] words = {"alpha", "beta", "milestone", "rc", "cr", "snapshot", "ga", "final", "release", "sp", "zz",
            "a", "b", "m", "x", "alphas", "alph", "betas", "rcs", "r", "ab", "mm", "g", "releases", "spa", "s"};
        int[] ranks = {1, 2, 3, 4, 4, 5, 6, 6, 6, 7, 8, 8, 8, 8, 8, 8, 8, 8, 8, 8, 8, 8, 8, 8, 8, 8};
        for (int i = 0; i < words.length; i++) {
            rankDue(words[i], 0, ranks[i]);
            rankDue("1-" + words[i], 1, ranks[i]);
            rankDue("1" + words[i], 1, ranks[i]);
            rankDue(words[i] + "-1", 0, ranks[i]);
        }
        rankDue("a1", 0, 1);
        rankDue("b1", 0, 2);
        rankDue("m1", 0, 3);
        rankDue("a0", 0, 1);
        rankDue("1.b0", 1, 2);
        rankDue("1m9", 1, 3);
        rankDue("c1", 0, 8);
        rankDue("aa1", 0, 8);
        rankDue("ba1", 0, 8);
        rankDue("a.1", 0, 8);
        rankDue("m-1", 0, 8);
        rankDue("alpha1", 0, 1);
        rankDue("rc1", 0, 4);
        rankDue("sp2", 0, 7);
    }

    private static void ranksOfNumbers() {
        rankDue("0", 0, 6);
        rankDue("000000000", 0, 6);
        rankDue("1", 0, 9);
        rankDue("01", 0, 9);
        rankDue("10", 0, 9);
        rankDue("000000001", 0, 9);
        rankDue("999999999", 0, 9);
    }

    private static void itemsInTheirOrder() {
        int[] want = {9, 6, 4, 9, 8, 6, 6};
        for (int item = 0; item < want.length; item++) {
            rankDue("1.0-rc2x", item, want[item]);
        }
        for (int item = 0; item < 12; item++) {
            rankDue("1x1x1x1x1x1x", item, item % 2 == 0 ? 9 : 8);
        }
    }

    private static void rankOfMissingItems() {
        int[] missing = {-1, -12, 1, 11, 12, 13, 1000, Integer.MIN_VALUE, Integer.MAX_VALUE};
        for (int item : missing) {
            rankDue("5", item, 6);
        }
        rankDue("1x1x1x1x1x1x", 12, 6);
        rankDue("1x1x1x1x1x1x", -1, 6);
    }

    private static void rankUsesTheTextUp() {
        ReleaseSolver solver = Checks.put(new ReleaseSolver(), "1");
        solver.rank(0);
        CHECKS.due("rank uses the text up", solver.count(0), 0);
        Checks.rank(solver, "1..", 0);
        CHECKS.due("a bad one too", solver.count(0), 0);
        CHECKS.due("rank of an empty text", solver.rank(0), ReleaseSolver.BAD);
    }

    private static void comparing() {
        String[] rising = {"alpha", "1-alpha", "1-beta", "1-beta1", "1b2", "1-milestone", "1m1", "1-rc", "1-cr1", "1rc2",
            "1-snapshot", "1", "1-sp", "1-a", "1-aa", "1-ab", "1-az", "1-b", "1-zz", "1-zzz", "1.1-alpha", "1.1", "1.1.0.1", "1.2",
            "1.10", "1.999999999", "2-rc", "2", "10", "10.x", "10.1"};
        for (int i = 0; i < rising.length; i++) {
            for (int j = 0; j < rising.length; j++) {
                CHECKS.due(rising[i] + " against " + rising[j], Checks.compare(rising[i], rising[j]), Integer.compare(i, j));
            }
        }
        String[][] equals = {{"1", "1.0", "1-0.0", "1.ga", "1-final", "1.0-release", "01", "1.000", "1final"},
            {"1-rc1", "1.cr1", "1rc1", "1-rc-01", "1cr1.0"}, {"1a1", "1-alpha1", "1-alpha-1", "1.alpha.1"},
            {"0", "ga", "0.0", "final", "release"}, {"1b0", "1-beta", "1-beta-ga"}, {"x.1", "x1", "x-01"}};
        for (String[] group : equals) {
            for (String one : group) {
                for (String other : group) {
                    CHECKS.due(one + " against " + other, Checks.compare(one, other), 0);
                }
            }
        }
        CHECKS.due("1.0.1 against 1-ga-1", Checks.compare("1.0.1", "1-ga-1"), 0);
        CHECKS.due("a against a1", Checks.compare("a", "a1"), 1);
        CHECKS.due("zzzzzzzzzzzz against 1", Checks.compare("zzzzzzzzzzzz", "1"), -1);
        CHECKS.due("long words", Checks.compare("zzzzzzzzzzzy", "zzzzzzzzzzzz"), -1);
        CHECKS.due("long words and a prefix", Checks.compare("zzzzzzzzzzz", "zzzzzzzzzzza"), -1);
        CHECKS.due("last items", Checks.compare("1.1.1.1.1.1", "1.1.1.1.1.2"), -1);
        CHECKS.due("twelfth items", Checks.compare("1x1x1x1x1x1y", "1x1x1x1x1x1x"), 1);
        CHECKS.due("a missing item against a word below", Checks.compare("1", "1.0.0-rc"), 1);
        CHECKS.due("a missing item against a word above", Checks.compare("1", "1.0.0-sp"), -1);
    }

    private static void compareRefuses() {
        ReleaseSolver solver = new ReleaseSolver();
        Checks.releases(solver, 0, "1", "2");
        Checks.releases(solver, 5, "1.0");
        CHECKS.due("compare(0, 0, 5, 0)", solver.compare(0, 0, 5, 0), 0);
        CHECKS.due("compare(0, 1, 5, 0)", solver.compare(0, 1, 5, 0), 1);
        CHECKS.due("compare(5, 0, 0, 1)", solver.compare(5, 0, 0, 1), -1);
        CHECKS.due("compare(0, 0, 0, 0)", solver.compare(0, 0, 0, 0), 0);
        int[] wrong = {-1, 6, Integer.MIN_VALUE, Integer.MAX_VALUE};
        for (int number : wrong) {
            CHECKS.due("compare plugin " + number, solver.compare(number, 0, 0, 0), -9);
            CHECKS.due("compare release " + number, solver.compare(0, number, 0, 0), -9);
            CHECKS.due("compare other " + number, solver.compare(0, 0, number, 0), -9);
            CHECKS.due("compare its release " + number, solver.compare(0, 0, 0, number), -9);
        }
        CHECKS.due("compare(0, 2, 0, 0)", solver.compare(0, 2, 0, 0), -9);
        CHECKS.due("compare(0, 0, 5, 1)", solver.compare(0, 0, 5, 1), -9);
        CHECKS.due("compare(1, 0, 0, 0)", solver.compare(1, 0, 0, 0), -9);
    }

    private static void compareLeavesTheText() {
        ReleaseSolver solver = new ReleaseSolver();
        Checks.releases(solver, 0, "1");
        Checks.put(solver, "12");
        solver.compare(0, 0, 0, 0);
        CHECKS.due("compare leaves the text", solver.count(0), 2);
    }
}
