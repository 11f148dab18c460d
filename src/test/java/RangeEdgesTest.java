/** The edges of ranges, sentence by sentence: Terms, promise 13. */
public final class RangeEdgesTest {
    /** A little less than 2, 2 itself, a little greater, and far less. */
    private static final String[] ABOUT_TWO = {"2-snapshot", "2", "2-sp", "1"};
    private static final String[] BAD_VERSIONS = {".1", "1.", "-1", "1-", "1..2", "1--2", "1.-2", "1234567890",
            "1.2.3.4.5.6.7", ".", "-"};

    public static void main(String[] args) {
        versionAlone();
        exact();
        lowerBound();
        lowerBoundNotEqual();
        upperBound();
        upperBoundNotEqual();
        bothBounds();
        noBound();
        longestRanges();
        wrongShapes();
        wrongVersions();
        badInEveryCall();
        withinAnswers();
        withinRefuses();
        Edge.end();
    }

    /** A 1 for each of ABOUT_TWO that is in the range: 2-snapshot, 2, 2-sp, 1. */
    private static Edge about(Edge edge, String range, String row) {
        edge.anew().releases(3, ABOUT_TWO);
        for (int release = 0; release < row.length(); release++) {
            edge.within(3, release, range, row.charAt(release) - '0').wipe(0);
        }
        return edge;
    }

    private static void versionAlone() {
        Edge edge = Edge.of("a VERSION v (v and all that are not less)");
        about(edge, "2", "0110");
        about(edge, "2.0-ga", "0110");
        about(edge, "2-snapshot", "1110");
        about(edge, "2-sp", "0010");
        about(edge, "2.1", "0000");
        about(edge, "alpha", "1111");
        about(edge, "999999999", "0000");
    }

    private static void exact() {
        Edge edge = Edge.of("'[', v, ']' (what is EQUAL to v)");
        about(edge, "[2]", "0100");
        about(edge, "[2.0.0-final]", "0100");
        about(edge, "[02]", "0100");
        about(edge, "[2-sp]", "0010");
        about(edge, "[3]", "0000");
        about(edge, "[1.0]", "0001");
    }

    private static void lowerBound() {
        Edge edge = Edge.of("not less than the first");
        about(edge, "[2,]", "0110");
        about(edge, "[2,)", "0110");
        about(edge, "[2.0,9]", "0110");
        about(edge, "[2-snapshot,9)", "1110");
        about(edge, "[2.0.1,]", "0010");
        about(edge, "[2.1,]", "0000");
    }

    private static void lowerBoundNotEqual() {
        Edge edge = Edge.of("with '(' not EQUAL to the first");
        about(edge, "(2,]", "0010");
        about(edge, "(2,)", "0010");
        about(edge, "(2.0-ga,9]", "0010");
        about(edge, "(2-snapshot,9)", "0110");
        about(edge, "(2-sp,)", "0000");
    }

    private static void upperBound() {
        Edge edge = Edge.of("not greater than the second one");
        about(edge, "[,2]", "1101");
        about(edge, "(,2]", "1101");
        about(edge, "[0,2.0]", "1101");
        about(edge, "(0,2-sp]", "1111");
        about(edge, "[,1-rc]", "0000");
    }

    private static void upperBoundNotEqual() {
        Edge edge = Edge.of("with ')' not EQUAL to the second");
        about(edge, "[,2)", "1001");
        about(edge, "(,2)", "1001");
        about(edge, "[0,2.0-ga)", "1001");
        about(edge, "(0,2-sp)", "1101");
        about(edge, "[,1)", "0000");
    }

    private static void bothBounds() {
        Edge edge = Edge.of("'[' or '(', a VERSION or nothing, ',', a VERSION or nothing, ']' or ')'");
        about(edge, "[1,2]", "1101");
        about(edge, "(1,2]", "1100");
        about(edge, "[1,2)", "1001");
        about(edge, "(1,2)", "1000");
        about(edge, "[2,2]", "0100");
        about(edge, "[2,2.0]", "0100");
        about(edge, "(2,2]", "0000");
        about(edge, "[2,2)", "0000");
        about(edge, "(2,2)", "0000");
        about(edge, "[2,1]", "0000");
        about(edge, "(2-sp,2-snapshot)", "0000");
    }

    private static void noBound() {
        Edge edge = Edge.of("nothing is no bound");
        for (String range : new String[] {"[,]", "(,)", "[,)", "(,]"}) {
            about(edge, range, "1111");
            edge.anew().releases(0, "alpha", "999999999", "0", "zzzzzzzzzzzz");
            for (int release = 0; release < 4; release++) {
                edge.within(0, release, range, 1);
            }
        }
    }

    private static void longestRanges() {
        Edge edge = Edge.of("THE TEXT is a row of at most 24 characters");
        about(edge, "[1.2.3.4.5,2.0.0.0.0.00]", "1100");
        about(edge, "[1.0.0.0.0.00,2.0.0.0.0]", "1101");
        about(edge, "[2.0.0.0.0.00]", "0100");
        about(edge, "[2.0.0.0.0.00,]", "0110");
        about(edge, "(,2.0.0.0.0.00)", "1001");
    }

    /** All these are BAD, and used up. */
    private static void bad(Edge edge, String... ranges) {
        for (String range : ranges) {
            edge.anew().releases(0, "1").within(0, 0, range, Edge.BAD).wipe(0).ask(0, range, Edge.BAD).wipe(0);
            edge.need(0, 0, 1, range, Edge.BAD).wipe(0).count(1, 0).count(4, 0);
        }
    }

    private static void wrongShapes() {
        Edge edge = Edge.of("A text that is none of these is BAD");
        bad(edge, "", "[", "]", "(", ")", ",", "[]", "()", "[)", "(]", "][", ")(", "[[", "]]", "((", "))", ",,", "[,", ",]",
                "(,", ",)");
        bad(edge, "(1)", "[1)", "(1]", "[1", "(1", "1]", "1)", "]1[", ")1(", "1[", "[1[", "]1]", "1,", ",1", "1,2", "1[]",
                "[]1");
        bad(edge, "[1,2", "(1,2", "1,2]", "1,2)", "]1,2[", "[1,2[", "]1,2]", ")1,2(", ",1,2]", "[1,2,", "[1,2]]", "[[1,2]",
                "[1,2],");
        bad(edge, "[1,2,3]", "[,,]", "[1,,2]", "[,1,]", "[,,1]", "[1,,]", "(,,)", "[1],[2]", "[1][2]", "[[1]]", "[(1)]",
                "[1]2", "1[2]");
        bad(edge, "[1,2]3", "0[1,2]", "[1,(2]", "[(1,2]", "[1),2]", "[1,2)]", "[1]]", "[1,[2]", "[1],2]");
    }

    private static void wrongVersions() {
        Edge edge = Edge.of("a VERSION or nothing");
        for (String version : BAD_VERSIONS) {
            bad(edge, version, "[" + version + "]", "[" + version + ",]", "(" + version + ",)", "[," + version + "]",
                    "(," + version + ")");
            bad(edge, "[" + version + ",2]", "[1," + version + "]", "[" + version + ",3)", "(0," + version + ")");
        }
    }

    private static void badInEveryCall() {
        Edge edge = Edge.of("is BAD").releases(0, "1").text("(1)").need(0, 0, 1, "", Edge.BAD).wipe(0);
        edge.text("(1)").needHost(0, 0, "", Edge.BAD).wipe(0).text("(1)").ask(0, "", Edge.BAD).wipe(0);
        edge.text("(1)").within(0, 0, "", Edge.BAD).wipe(0).ask(0, "1", 0).solve(1, "0-----");
    }

    private static void withinAnswers() {
        Edge edge = Edge.of("1 if the release's version is in the text, used up, as a range, else 0; BAD");
        edge.releases(0, "1", "2").releases(5, "3").text("[2]").within(0, 1, "", 1).wipe(0).text("[2]").within(0, 0, "", 0)
                .wipe(0);
        edge.text("[2").within(0, 0, "", Edge.BAD).wipe(0).within(0, 0, "", Edge.BAD).within(5, 0, "[3]", 1)
                .within(5, 0, "(3,)", 0);
        edge.withdraw(5, 0, true, 0).within(5, 0, "[3]", 1).needHost(5, 0, "9", 0).within(5, 0, "[3]", 1);
    }

    private static void withinRefuses() {
        Edge edge = Edge.of("Numbers out of range are REFUSED; this is tested first").releases(0, "1", "2").text("[1");
        for (int number : Edge.noPlugins()) {
            edge.within(number, 0, "", Edge.REFUSED).within(0, number, "", Edge.REFUSED)
                    .within(number, number, "", Edge.REFUSED);
        }
        edge.within(0, 2, "", Edge.REFUSED).within(1, 0, "", Edge.REFUSED).wipe(2).within(0, 2, "", Edge.REFUSED);
        edge.text("[1]").within(0, 2, "", Edge.REFUSED).within(0, 0, "", 1);
    }
}
