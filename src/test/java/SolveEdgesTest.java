/** The edges of selections, blame and what is unmet, sentence by sentence: Terms, promises 14 to 17. */
public final class SolveEdgesTest {
    public static void main(String[] args) {
        noAskAtAll();
        notWithdrawn();
        eachAsk();
        hostRange();
        needs();
        threeNeeds();
        optionalNeeds();
        ledToByAnAsk();
        ledToByANeed();
        ledToByAChain();
        greaterVersion();
        firstPluginWhereTheyDiffer();
        havingARelease();
        theBest();
        blameByRisingNumber();
        leftOutForGood();
        thoseThatStay();
        solveCounts();
        solveNone();
        solveOfPluginsWithoutReleases();
        chosenLastSelection();
        chosenNone();
        chosenAfterNone();
        chosenBeforeTheFirst();
        chosenOfNoPlugin();
        blamedAsItWasThen();
        blamedNoOtherSolveBehindIt();
        blamedOfNoAsk();
        unmetNow();
        unmetNoRelease();
        unmetNotInTheRange();
        unmetChangedSince();
        unmetAfterNone();
        unmetBeforeTheFirst();
        Edge.end();
    }

    private static void noAskAtAll() {
        Edge edge = Edge.of("With no ask at all the selection of nothing is GOOD").solve(0, "------").unmet(0)
                .blamed("0000");
        edge.anew().stocked().need(0, 3, 1, "9", 1).solve(0, "------").unmet(0);
        edge.ask(0, "9", 0).solve(Edge.NONE).unask(0, 0).solve(0, "------").unmet(0).blamed("0000");
        edge.ask(0, "1", 0).solve(1).unask(0, 0).solve(0, "------").unmet(0);
    }

    private static void notWithdrawn() {
        Edge edge = Edge.of("gives each plugin a release that is not withdrawn, or none").releases(0, "1", "2")
                .releases(1, "1");
        edge.ask(0, "1", 0).solve(1, "1-----").withdraw(0, 1, true, 0).solve(1, "0-----").need(0, 0, 1, "1", 1)
                .solve(2, "00----");
        edge.withdraw(1, 0, true, 0).solve(Edge.NONE).withdraw(0, 1, false, 0).solve(1, "1-----");
        edge.withdraw(0, 0, true, 0).withdraw(0, 1, true, 0).solve(Edge.NONE).withdraw(1, 0, false, 0).solve(Edge.NONE);
        // A withdrawn release's own wants do not matter.
        edge.needHost(0, 0, "9", 0).withdraw(0, 1, false, 0).solve(1, "1-----");
    }

    private static void eachAsk() {
        Edge edge = Edge.of("each ask's plugin has a release, with a version in its range").stocked();
        edge.ask(0, "[1,3)", 0).solve(1, "1-----").ask(0, "(1,4]", 1).solve(1, "1-----").ask(0, "[,2]", 2)
                .solve(1, "1-----");
        edge.ask(5, "[4.0]", 3).solve(2, "1----3").unask(3, 3).ask(0, "(2,)", 3).solve(Edge.NONE).unask(3, 3)
                .ask(5, "(4,)", 3);
        edge.solve(Edge.NONE);
    }

    private static void hostRange() {
        Edge edge = Edge.of("the HOST is in its range, if it has one").stocked().ask(0, "1", 0).solve(1, "3-----");
        edge.needHost(0, 3, "(1,]", 0).solve(1, "2-----").needHost(0, 2, "[,1)", 0).solve(1, "1-----")
                .needHost(0, 1, "[1.0]", 0);
        edge.solve(1, "1-----").host("1-sp", 0).solve(1, "3-----").host("1-snapshot", 0).solve(1, "2-----");
        // Only the chosen releases' ranges count.
        edge.needHost(0, 0, "9", 0).needHost(1, 0, "9", 0).needHost(5, 3, "9", 0).solve(1, "2-----");
        edge.need(0, 2, 5, "1", 1).solve(2, "2----2");
    }

    private static void needs() {
        Edge edge = Edge.of("for each need that is not optional that plugin has a release, with a version in the range");
        edge.releases(0, "1", "2").releases(1, "1", "2", "3").ask(0, "1", 0).need(0, 1, 1, "[1,3)", 1).solve(2, "11----");
        edge.need(0, 1, 1, "(,2)", 2).solve(2, "10----").need(0, 1, 1, "[3,]", 3).solve(1, "0-----");
        edge.need(0, 0, 2, "(,)", 1).solve(Edge.NONE).release(2, "0", 0).solve(2, "0-0---");
        edge.need(2, 0, 3, "1", 1).solve(Edge.NONE).releases(3, "1").solve(3, "0-00--");
    }

    private static void threeNeeds() {
        Edge edge = Edge.of("at most 3 NEEDS (a plugin, a range, optional or not)").stocked().ask(5, "4", 0);
        edge.need(5, 3, 0, "[1]", 1).need(5, 3, 1, "[2]", 2).solve(3, "01---3").need(5, 3, 2, "[3]", 3).solve(4, "012--3");
        edge.need(5, 3, 3, "9", Edge.FULL).solve(4, "012--3").withdraw(2, 2, true, 0).solve(Edge.NONE);
    }

    private static void optionalNeeds() {
        Edge edge = Edge.of("for each optional need, if that plugin has a release, its version is in the range").stocked();
        edge.optional(0, 3, 1, "[2]", 1).ask(0, "4", 0).solve(1, "3-----").ask(1, "1", 1).solve(2, "31----")
                .ask(1, "(2,]", 2);
        edge.solve(Edge.NONE).blamed("1010").unask(1, 2).unask(1, 1).optional(0, 3, 2, "9", 2).solve(1, "3-----")
                .ask(2, "1", 1);
        edge.solve(Edge.NONE).blamed("1100");
        edge.anew().releases(0, "1").optional(0, 0, 1, "1", 1).ask(0, "1", 0).solve(1, "0-----");
    }

    private static void ledToByAnAsk() {
        Edge edge = Edge.of("each plugin that has a release is LED TO: there is an ask for it").stocked();
        for (int plugin = 0; plugin < 6; plugin++) {
            StringBuilder row = new StringBuilder("------");
            row.setCharAt(plugin, '3');
            edge.ask(plugin, "1", 0).solve(1, row.toString()).unask(0, 0);
        }
    }

    private static void ledToByANeed() {
        Edge edge = Edge.of("or it is in a need that is not optional of the release of a plugin that is led to").stocked();
        edge.need(3, 3, 0, "1", 1).ask(3, "1", 0).solve(2, "3--3--").unask(0, 0).ask(3, "[,3]", 0).solve(1, "---2--")
                .unask(0, 0);
        edge.optional(4, 3, 0, "1", 1).ask(4, "1", 0).solve(1, "----3-").unask(0, 0);
        // A need of a plugin that is not led to leads nowhere, nor does a ring of needs.
        edge.need(1, 3, 2, "1", 1).need(2, 3, 1, "1", 1).need(5, 3, 5, "1", 1).ask(4, "1", 0).solve(1, "----3-");
    }

    private static void ledToByAChain() {
        Edge edge = Edge.of("of a plugin that is led to").stocked().ask(5, "1", 0);
        for (int plugin = 5; plugin > 0; plugin--) {
            edge.need(plugin, 0, plugin - 1, "[1]", 1);
        }
        edge.solve(6, "000000").ask(5, "(1,]", 1).solve(1, "-----3").unask(1, 1).ask(2, "[2]", 1).solve(2, "--1--3")
                .ask(5, "[1]", 2).solve(Edge.NONE).blamed("0110");
        edge.anew().stocked().ask(0, "[1]", 0);
        for (int plugin = 0; plugin < 5; plugin++) {
            edge.need(plugin, 0, plugin + 1, "[1]", 1);
        }
        edge.solve(6, "000000").need(5, 0, 0, "[1]", 1).solve(6, "000000").optional(5, 0, 0, "[2]", 2).solve(Edge.NONE);
    }

    private static void greaterVersion() {
        Edge edge = Edge.of("has the greater version").releases(0, "1.10", "1.9", "1.10-rc", "1.2")
                .releases(1, "1-beta", "1", "1-sp", "1-rc");
        edge.releases(2, "9", "10", "010-alpha", "x").ask(0, "(,)", 0).ask(1, "(,)", 1).ask(2, "(,)", 2).solve(3, "021---");
    }

    private static void firstPluginWhereTheyDiffer() {
        Edge edge = Edge.of("at the first plugin where they differ").stocked().ask(5, "1", 0).ask(1, "1", 1).ask(0, "1", 2);
        // One version more of plugin 0 costs plugin 1 and plugin 5 all that they could have.
        edge.need(0, 3, 1, "[1]", 1).need(0, 3, 5, "[1]", 2).solve(3, "30---0").unask(2, 2).solve(2, "-3---3");
        edge.need(1, 3, 5, "[2]", 1).solve(2, "-3---1").need(5, 3, 1, "[1]", 1).solve(2, "-3---1");
    }

    private static void havingARelease() {
        Edge edge = Edge.of("having a release is better than having none").stocked().ask(5, "1", 0);
        edge.need(5, 0, 0, "[1]", 1).solve(2, "0----0").need(5, 1, 0, "[2]", 1).solve(2, "1----1").need(5, 2, 1, "[4]", 1);
        edge.solve(2, "1----1").need(5, 2, 0, "[2]", 2).solve(3, "13---2").withdraw(0, 0, true, 0).withdraw(0, 1, true, 0)
                .solve(1, "-----3");
    }

    private static void theBest() {
        Edge edge = Edge.of("the best GOOD selection, if there is one").stocked().ask(0, "1", 0).ask(1, "1", 1)
                .ask(2, "1", 2).ask(3, "1", 3);
        edge.optional(3, 3, 0, "[1]", 1).optional(3, 2, 0, "[2]", 1).optional(3, 1, 0, "[3]", 1).optional(3, 0, 1, "[1]", 1);
        edge.solve(4, "3030--").withdraw(0, 3, true, 0).solve(4, "2331--").withdraw(3, 1, true, 0).solve(4, "2030--");
    }

    private static void blameByRisingNumber() {
        Edge edge = Edge.of("the asks, by rising number").stocked().ask(0, "9", 0).ask(1, "9", 1).solve(Edge.NONE)
                .blamed("0100");
        edge.ask(2, "9", 2).solve(Edge.NONE).blamed("0010").ask(3, "9", 3).solve(Edge.NONE).blamed("0001");
        edge.unask(3, 3).ask(3, "1", 3).solve(Edge.NONE).blamed("0010");
        edge.anew().stocked().ask(0, "[1]", 0).ask(0, "[2]", 1).ask(0, "[3]", 2).ask(0, "[4]", 3).solve(Edge.NONE)
                .blamed("0011");
    }

    private static void leftOutForGood() {
        Edge edge = Edge.of("each one left out for good if there is no GOOD selection without it (and without those left out before)");
        // Each two of 0, 2 and 3 would do; 0 is left out first, so that 2 and 3 stay.
        edge.stocked().ask(0, "[1]", 0).ask(1, "1", 1).ask(0, "[2]", 2).ask(0, "[3]", 3).solve(Edge.NONE).blamed("0011");
        // Without ask 0 the other ones can be met, so that it stays, though it could be met alone.
        edge.anew().stocked().ask(0, "[1]", 0).ask(1, "1", 1).ask(0, "[2]", 2).ask(2, "1", 3).solve(Edge.NONE)
                .blamed("1010");
        // Ask 1 goes with either of the others, and those not with each other.
        edge.anew().releases(0, "1", "2", "3").ask(0, "[1,2]", 0).ask(0, "[2,3]", 1).ask(0, "(2,3]", 2).solve(Edge.NONE)
                .blamed("1010");
        edge.anew().releases(0, "1", "2", "3").releases(1, "1", "2", "3");
        edge.optional(0, 0, 1, "[1]", 1).optional(0, 1, 1, "[2]", 1).optional(0, 2, 1, "[3]", 1);
        edge.ask(0, "[,2]", 0).ask(1, "[2,]", 1).ask(0, "[1]", 2).solve(Edge.NONE).blamed("0110");
    }

    private static void thoseThatStay() {
        Edge edge = Edge.of("those that stay").stocked().ask(0, "9", 0).solve(Edge.NONE).blamed("1000");
        edge.ask(1, "1", 1).solve(Edge.NONE).blamed("1000").unask(0, 1).ask(0, "9", 1).solve(Edge.NONE).blamed("0100");
        edge.anew().stocked();
        edge.optional(0, 3, 1, "9", 1).optional(1, 3, 2, "9", 1).ask(0, "4", 0).ask(1, "4", 1).solve(Edge.NONE)
                .blamed("1100");
        edge.unask(0, 1).ask(2, "4", 1).solve(Edge.NONE).blamed("1100");
        // All four are needed to tell why there is no way.
        edge.anew().releases(0, "1", "2", "3", "4").releases(1, "1").releases(2, "1").releases(3, "1");
        edge.optional(0, 0, 1, "9", 1).optional(0, 1, 2, "9", 1).optional(0, 2, 3, "9", 1);
        edge.ask(0, "[,3]", 0).ask(1, "1", 1).ask(2, "1", 2).ask(3, "1", 3).solve(Edge.NONE).blamed("1111");
    }

    private static void solveCounts() {
        Edge edge = Edge.of("how many plugins have a release").stocked().solve(0);
        edge.ask(0, "1", 0).solve(1).ask(0, "1", 1).solve(1).ask(1, "1", 2).solve(2).ask(5, "1", 3).solve(3)
                .need(5, 3, 4, "1", 1);
        edge.solve(4).need(5, 3, 3, "1", 2).solve(5).need(5, 3, 2, "1", 3).solve(6, "333333");
    }

    private static void solveNone() {
        Edge edge = Edge.of("NONE if there is no GOOD selection").stocked().ask(0, "(4,)", 0).solve(Edge.NONE)
                .solve(Edge.NONE);
        edge.release(0, "5", Edge.FULL).unask(0, 0).ask(0, "[4,)", 0).solve(1).needHost(0, 3, "2", 0).solve(Edge.NONE);
        edge.needHost(0, 3, "", 0).need(0, 3, 0, "[,4)", 1).solve(Edge.NONE);
    }

    private static void solveOfPluginsWithoutReleases() {
        Edge edge = Edge.of("There is no release, or no good selection");
        for (int plugin = 0; plugin < 6; plugin++) {
            edge.anew().ask(plugin, "(,)", 0).solve(Edge.NONE, "------").blamed("1000").release(plugin, "0", 0).solve(1)
                    .chosen(plugin, 0);
        }
    }

    private static void chosenLastSelection() {
        Edge edge = Edge.of("The release that the plugin has in the last selection").stocked().ask(0, "1", 0)
                .solve(1, "3-----");
        edge.withdraw(0, 3, true, 0).chosen("3-----").unask(0, 0).chosen("3-----").needHost(0, 3, "9", 0).host("5", 0);
        edge.need(0, 3, 1, "9", 1).ask(1, "1", 0).chosen("3-----").text("[1").ask(1, "", Edge.BAD).chosen("3-----")
                .solve(1, "-3----");
    }

    private static void chosenNone() {
        Edge.of("NONE if it has none").stocked().ask(2, "1", 0).solve(1).chosen(0, Edge.NONE).chosen(1, Edge.NONE)
                .chosen(2, 3)
                .chosen(3, Edge.NONE).chosen(4, Edge.NONE).chosen(5, Edge.NONE);
    }

    private static void chosenAfterNone() {
        Edge edge = Edge.of("or the last solve answered NONE").stocked().ask(0, "1", 0).solve(1, "3-----").ask(1, "9", 1)
                .chosen("3-----");
        edge.solve(Edge.NONE, "------").unask(1, 1).chosen("------").solve(1, "3-----");
    }

    private static void chosenBeforeTheFirst() {
        Edge.of("and before the first").chosen("------").stocked().chosen("------").ask(0, "1", 0).chosen("------")
                .solve(1, "3-----");
    }

    private static void chosenOfNoPlugin() {
        Edge edge = Edge.of("Numbers out of range are REFUSED").stocked();
        for (int plugin : Edge.noPlugins()) {
            edge.chosen(plugin, Edge.REFUSED);
        }
        edge.ask(0, "1", 0).ask(5, "1", 1).solve(2, "3----3");
        for (int plugin : Edge.noPlugins()) {
            edge.chosen(plugin, Edge.REFUSED);
        }
        edge.ask(1, "9", 2).solve(Edge.NONE).chosen(6, Edge.REFUSED).chosen(-1, Edge.REFUSED);
    }

    private static void blamedAsItWasThen() {
        Edge edge = Edge.of("Whether the ask of that number, as it was then, is in the BLAME").stocked();
        edge.ask(0, "1", 0).ask(1, "9", 1).ask(2, "1", 2).solve(Edge.NONE).blamed("0100").unask(0, 2).blamed("0100");
        edge.unask(0, 1).blamed("0100").unask(0, 0).blamed("0100").ask(3, "9", 0).ask(4, "9", 1).ask(5, "9", 2)
                .blamed("0100");
        edge.withdraw(0, 0, true, 0).host("2", 0).release(1, "9", Edge.FULL).blamed("0100");
    }

    private static void blamedNoOtherSolveBehindIt() {
        Edge edge = Edge.of("of the last solve that answered NONE (no other solve behind it)").stocked().blamed("0000");
        edge.ask(0, "9", 0).blamed("0000").solve(Edge.NONE).blamed("1000").unask(0, 0).blamed("1000").solve(0)
                .blamed("0000");
        edge.ask(0, "1", 0).ask(0, "9", 1).solve(Edge.NONE).blamed("0100").unask(0, 1).solve(Edge.NONE).blamed("1000");
        edge.unask(0, 0).ask(0, "1", 0).solve(1).blamed("0000");
    }

    private static void blamedOfNoAsk() {
        Edge edge = Edge.of("blamed(int ask)").stocked();
        edge.ask(0, "[1]", 0).ask(1, "9", 1).ask(0, "[2]", 2).ask(1, "9", 3).solve(Edge.NONE).blamed("0001")
                .blamed(4, false).blamed(5, false);
        edge.anew().stocked().ask(0, "9", 0).solve(Edge.NONE).blamed("10000000");
        for (int number : Edge.noPlugins()) {
            edge.blamed(number, false);
        }
        edge.blamed(33, false).blamed(1 << 5, false).blamed(-32, false).blamed(-31, false).blamed(Integer.MIN_VALUE, false);
    }

    private static void unmetNow() {
        Edge edge = Edge.of("How many asks would have to be met by the last selection but are not now").stocked()
                .ask(0, "1", 0).solve(1).unmet(0);
        edge.ask(0, "[3]", 1).unmet(1).ask(1, "1", 2).unmet(2).ask(0, "[3]", 3).unmet(3).unask(0, 3).unmet(3).unask(1, 2)
                .unmet(2);
        edge.unask(0, 1).unmet(1).unask(0, 0).unmet(0);
        edge.ask(1, "1", 0).ask(2, "1", 1).ask(3, "1", 2).ask(4, "1", 3).unmet(4);
    }

    private static void unmetNoRelease() {
        Edge edge = Edge.of("asks whose plugin has no release in it").stocked().solve(0);
        for (int ask = 0; ask < 4; ask++) {
            edge.ask(ask + 2, "(,)", ask).unmet(ask + 1);
        }
        edge.solve(4).unmet(0);
    }

    private static void unmetNotInTheRange() {
        Edge edge = Edge.of("or one whose version is not in the range").stocked().ask(0, "[,3]", 0).solve(1, "2-----");
        edge.ask(0, "[3]", 1).unmet(0).ask(0, "(3,]", 2).unmet(1).ask(0, "[,3)", 3).unmet(2).unask(2, 3).unmet(1);
        edge.unask(2, 2).unmet(0).ask(0, "[3.0-ga,3.0]", 2).unmet(0);
    }

    private static void unmetChangedSince() {
        Edge edge = Edge.of("(they, the releases, the host may have changed since)").releases(0, "1", "2").ask(0, "1", 0)
                .solve(1, "1-----");
        edge.release(0, "3", 2).unmet(0).withdraw(0, 1, true, 0).unmet(0).needHost(0, 1, "9", 0).unmet(0).host("5", 0)
                .unmet(0);
        edge.need(0, 1, 3, "9", 1).unmet(0).ask(0, "3", 1).unmet(1).solve(1, "2-----").unmet(0);
    }

    private static void unmetAfterNone() {
        Edge edge = Edge.of("NONE if the last solve answered NONE").stocked().ask(0, "1", 0).solve(1).unmet(0)
                .ask(0, "9", 1).unmet(1);
        edge.solve(Edge.NONE).unmet(Edge.NONE).unask(1, 1).unmet(Edge.NONE).unask(0, 0).unmet(Edge.NONE).solve(0).unmet(0);
    }

    private static void unmetBeforeTheFirst() {
        Edge.of("NONE if the last solve answered NONE, and before the first").unmet(Edge.NONE).stocked().unmet(Edge.NONE)
                .ask(0, "1", 0).unmet(Edge.NONE).unask(0, 0).unmet(Edge.NONE).solve(0).unmet(0);
    }
}
