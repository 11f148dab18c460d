/** The edges of releases, needs, the host and asks, sentence by sentence: Terms, promises 4 to 10. */
public final class StockEdgesTest {
    public static void main(String[] args) {
        releaseNumbers();
        releaseBad();
        releaseTwice();
        releaseFull();
        releaseInThisOrder();
        releaseOfNoPlugin();
        needOfAPlugin();
        needOfItsOwnPlugin();
        needBad();
        needFull();
        needBadBeforeFull();
        needOfNoRelease();
        needHostInPlaceOfOneBefore();
        needHostEmptyText();
        needHostBad();
        needHostIsNoNeed();
        needHostOfNoRelease();
        withdrawOn();
        withdrawOff();
        withdrawOfNoRelease();
        hostFromNowOn();
        hostBad();
        askNumbers();
        askBad();
        askFull();
        askBadBeforeFull();
        askOfNoPlugin();
        unaskMovesThoseBehind();
        unaskOfNone();
        unaskCounts();
        Edge.end();
    }

    private static void releaseNumbers() {
        Edge edge = Edge.of("PLUGINS 0 .. 5 have RELEASES 0, 1, .. in the order in which they were added");
        for (int i = 0; i < 4; i++) {
            for (int plugin = 0; plugin < 6; plugin++) {
                edge.release(plugin, String.valueOf(9 - i), i).wipe(0).count(2, i * 6 + plugin + 1);
            }
        }
        edge.compare(0, 0, 0, 1, 1).compare(0, 1, 0, 2, 1).compare(5, 2, 5, 3, 1).compare(0, 3, 5, 3, 0);
    }

    private static void releaseBad() {
        Edge edge = Edge.of("BAD if it is none");
        for (String text : new String[] {"", "1.", ".1", "1..2", "1234567890", "1.2.3.4.5.6.7", "[1]", "[1,2]", "(,)", "1,",
                "]"}) {
            edge.anew().release(0, text, Edge.BAD).wipe(0).count(2, 0).withdraw(0, 0, true, Edge.REFUSED).release(0, "1", 0);
        }
    }

    private static void releaseTwice() {
        Edge edge = Edge.of("There is a release with an equal version.").releases(0, "1", "2-rc1");
        edge.release(0, "1", Edge.TWICE).wipe(0).release(0, "1.0", Edge.TWICE).release(0, "1-ga", Edge.TWICE);
        edge.release(0, "01", Edge.TWICE).release(0, "2.cr1", Edge.TWICE).count(2, 2).release(1, "1", 0);
        edge.withdraw(0, 0, true, 0).release(0, "1", Edge.TWICE).count(3, 1).count(2, 3);
        edge.release(0, "1-sp", 2).release(0, "2-rc2", 3).compare(0, 0, 0, 2, -1);
    }

    private static void releaseFull() {
        Edge edge = Edge.of("4 releases: FULL");
        for (int plugin = 0; plugin < 6; plugin++) {
            edge.releases(plugin, "4", "3", "2", "1").release(plugin, "5", Edge.FULL).wipe(0)
                    .release(plugin, "0", Edge.FULL);
            edge.count(2, plugin * 4 + 4).withdraw(plugin, 4, true, Edge.REFUSED);
            edge.withdraw(plugin, 0, true, 0).release(plugin, "5", Edge.FULL).withdraw(plugin, 0, false, 0);
        }
        edge.ask(0, "(,)", 0).solve(1, "0-----");
    }

    private static void releaseInThisOrder() {
        Edge edge = Edge.of("BAD if it is none, TWICE, 4 releases: FULL, in this order").releases(2, "1", "2", "3", "4");
        edge.release(2, "", Edge.BAD).release(2, "1.", Edge.BAD).release(2, "[5]", Edge.BAD).wipe(0);
        for (String equal : new String[] {"1", "2.0", "3-ga", "04"}) {
            edge.release(2, equal, Edge.TWICE).wipe(0);
        }
        edge.release(2, "5", Edge.FULL).wipe(0).count(2, 4);
    }

    private static void releaseOfNoPlugin() {
        Edge edge = Edge.of("Adds a release of the plugin 0 .. 5").text("1");
        for (int plugin : Edge.noPlugins()) {
            edge.release(plugin, "", Edge.REFUSED).count(0, 1).count(2, 0);
        }
        edge.release(5, "", 0).release(0, "1", 0);
    }

    private static void needOfAPlugin() {
        Edge edge = Edge.of("The release needs a plugin 0 .. 5").stocked();
        for (int other = 0; other < 6; other++) {
            edge.need(other, 0, 5 - other, "[2]", 1).wipe(0);
        }
        edge.count(4, 6).text("1");
        for (int other : Edge.noPlugins()) {
            edge.need(0, 0, other, "", Edge.REFUSED).optional(0, 0, other, "", Edge.REFUSED);
        }
        edge.count(4, 6).wipe(1).ask(2, "[1]", 0).solve(2, "--01--");
    }

    private static void needOfItsOwnPlugin() {
        Edge edge = Edge.of("(its own too)").stocked().need(0, 3, 0, "[1,3]", 1).optional(0, 2, 0, "(3,]", 1)
                .need(0, 1, 0, "[2]", 1);
        edge.ask(0, "1", 0).solve(1, "1-----").ask(0, "3", 1).solve(Edge.NONE).blamed("01");
        // Each of several needs counts, whichever came last.
        edge.anew().stocked().need(0, 3, 0, "9", 1).need(0, 3, 0, "1", 2).need(0, 2, 0, "1", 1).need(0, 2, 0, "9", 2);
        edge.ask(0, "1", 0).solve(1, "1-----");
    }

    private static void needBad() {
        Edge edge = Edge.of("used up, as the range: BAD; 3 needs: FULL").releases(0, "1").ask(0, "1", 0);
        for (String range : new String[] {"", "[1", "(1)", "1,", "[]", "1.", "[1,2,3]"}) {
            edge.need(0, 0, 1, range, Edge.BAD).wipe(0).optional(0, 0, 1, range, Edge.BAD).wipe(0).count(4, 0);
        }
        edge.solve(1, "0-----");
    }

    private static void needFull() {
        Edge edge = Edge.of("3 needs: FULL. Else how many it has").releases(0, "1", "2").releases(1, "1");
        edge.need(0, 0, 1, "1", 1).optional(0, 0, 0, "1", 2).need(0, 0, 1, "1", 3).need(0, 0, 2, "1", Edge.FULL).wipe(0);
        edge.optional(0, 0, 1, "[9]", Edge.FULL).wipe(0).count(4, 3).needHost(0, 0, "1", 0).need(0, 0, 2, "1", Edge.FULL);
        edge.ask(0, "[1]", 0).solve(2, "00----").need(0, 1, 1, "1", 1).count(4, 4);
    }

    private static void needBadBeforeFull() {
        Edge edge = Edge.of("BAD; 3 needs: FULL").releases(0, "1").need(0, 0, 1, "1", 1).need(0, 0, 1, "1", 2)
                .need(0, 0, 1, "1", 3);
        edge.need(0, 0, 1, "", Edge.BAD).need(0, 0, 1, "(1)", Edge.BAD).wipe(0).need(0, 0, 1, "1", Edge.FULL).count(4, 3);
        edge.text("(1)").need(0, 0, 6, "", Edge.REFUSED).need(0, 1, 0, "", Edge.REFUSED).wipe(3);
    }

    private static void needOfNoRelease() {
        Edge edge = Edge.of("REFUSED if there is no such release").releases(0, "1", "2").releases(4, "1", "2", "3", "4")
                .text("1");
        for (int number : Edge.noPlugins()) {
            edge.need(number, 0, 1, "", Edge.REFUSED).need(0, number, 1, "", Edge.REFUSED)
                    .optional(number, number, 1, "", Edge.REFUSED);
        }
        edge.need(0, 2, 1, "", Edge.REFUSED).need(1, 0, 1, "", Edge.REFUSED).need(4, 4, 1, "", Edge.REFUSED).count(4, 0)
                .count(0, 1);
        edge.need(4, 3, 1, "", 1).need(0, 1, 1, "1", 1);
    }

    private static void needHostInPlaceOfOneBefore() {
        Edge edge = Edge.of("in place of one before").releases(0, "1", "2").ask(0, "2", 0).solve(1);
        edge.needHost(0, 1, "[2]", 0).wipe(0).solve(Edge.NONE).needHost(0, 1, "[1]", 0).solve(1);
        edge.needHost(0, 1, "[2,3]", 0).solve(Edge.NONE).host("2", 0).solve(1).needHost(0, 1, "(2,)", 0).solve(Edge.NONE);
        edge.needHost(0, 1, "[,2]", 0).solve(1, "1-----").needHost(0, 0, "9", 0).solve(1, "1-----");
    }

    private static void needHostEmptyText() {
        Edge edge = Edge.of("an empty text: none").releases(0, "1").ask(0, "1", 0).needHost(0, 0, "", 0).solve(1);
        edge.needHost(0, 0, "9", 0).solve(Edge.NONE).needHost(0, 0, "", 0).solve(1).host("0-alpha", 0).solve(1);
    }

    private static void needHostBad() {
        Edge edge = Edge.of("an empty text: none. BAD. 0.").releases(0, "1").ask(0, "1", 0).needHost(0, 0, "9", 0);
        for (String range : new String[] {"[1", "(1)", "[]", ",", "1..1", "1.", "[1,1,1]", "1234567890"}) {
            edge.needHost(0, 0, range, Edge.BAD).wipe(0).solve(Edge.NONE);
        }
        edge.needHost(0, 0, "", 0).needHost(0, 0, "(9)", Edge.BAD).solve(1);
    }

    private static void needHostIsNoNeed() {
        Edge edge = Edge.of("at most one range for the HOST").releases(0, "1").needHost(0, 0, "1", 0).needHost(0, 0, "1", 0)
                .count(4, 0);
        edge.need(0, 0, 0, "1", 1).need(0, 0, 0, "1", 2).need(0, 0, 0, "1", 3).needHost(0, 0, "[1]", 0).count(4, 3);
    }

    private static void needHostOfNoRelease() {
        Edge edge = Edge.of("needHost(int plugin, int release)").releases(0, "1").releases(4, "1", "2", "3", "4").text("[9");
        for (int number : Edge.noPlugins()) {
            edge.needHost(number, 0, "", Edge.REFUSED).needHost(0, number, "", Edge.REFUSED)
                    .needHost(number, number, "", Edge.REFUSED);
        }
        edge.needHost(0, 1, "", Edge.REFUSED).needHost(1, 0, "", Edge.REFUSED).needHost(4, 4, "", Edge.REFUSED).wipe(2);
        edge.needHost(0, 1, "", Edge.REFUSED).ask(0, "1", 0).ask(4, "1", 1).solve(2, "0---3-");
    }

    private static void withdrawOn() {
        Edge edge = Edge.of("The release is WITHDRAWN, or not any more. 0.").releases(0, "1", "2").ask(0, "1", 0).text("1");
        edge.withdraw(0, 1, true, 0).count(3, 1).solve(1, "0-----").withdraw(0, 1, true, 0).count(3, 1)
                .withdraw(0, 0, true, 0);
        edge.count(3, 2).solve(Edge.NONE).count(2, 2).wipe(1);
    }

    private static void withdrawOff() {
        Edge edge = Edge.of("or not any more").releases(0, "1", "2").ask(0, "1", 0).withdraw(0, 0, false, 0).count(3, 0);
        edge.withdraw(0, 1, true, 0).withdraw(0, 1, false, 0).count(3, 0).solve(1, "1-----").withdraw(0, 1, false, 0)
                .count(3, 0);
    }

    private static void withdrawOfNoRelease() {
        Edge edge = Edge.of("withdraw(int plugin, int release, boolean on)").releases(0, "1")
                .releases(4, "1", "2", "3", "4").text("1");
        for (int number : Edge.noPlugins()) {
            edge.withdraw(number, 0, true, Edge.REFUSED).withdraw(0, number, true, Edge.REFUSED)
                    .withdraw(number, number, false, Edge.REFUSED);
        }
        edge.withdraw(0, 1, true, Edge.REFUSED).withdraw(1, 0, true, Edge.REFUSED).withdraw(4, 4, false, Edge.REFUSED);
        edge.count(3, 0).withdraw(4, 3, true, 0).withdraw(4, 4, false, Edge.REFUSED).count(3, 1).wipe(1);
    }

    private static void hostFromNowOn() {
        Edge edge = Edge.of("is the host's version from now on").releases(0, "1").needHost(0, 0, "[2,3)", 0).ask(0, "1", 0);
        edge.solve(Edge.NONE).host("2.0-rc", 0).wipe(0).solve(Edge.NONE).host("2.0-ga", 0).solve(1).host("2.999999999", 0)
                .solve(1);
        edge.host("3", 0).solve(Edge.NONE).host("3-snapshot", 0).solve(1).chosen(0, 0).host("1", 0).chosen(0, 0);
    }

    private static void hostBad() {
        Edge edge = Edge.of("the host's version from now on: BAD. 0.").releases(0, "1").needHost(0, 0, "[2]", 0)
                .ask(0, "1", 0).host("2", 0);
        for (String text : new String[] {"", "1.", "-1", "1..1", "[1]", "(,)", "1,1", "1234567890", "1.2.3.4.5.6.7"}) {
            edge.host(text, Edge.BAD).wipe(0).solve(1);
        }
    }

    private static void askNumbers() {
        Edge edge = Edge.of("Its number, from 0").ask(5, "1", 0).wipe(0).ask(0, "[,)", 1).ask(5, "1", 2).ask(3, "[1]", 3)
                .count(1, 4);
        edge.unask(0, 3).ask(1, "1", 3).unask(3, 3).unask(0, 2).unask(0, 1).ask(2, "1", 1).unask(0, 1).unask(0, 0)
                .ask(0, "1", 0);
    }

    private static void askBad() {
        Edge edge = Edge.of("as the range: BAD; 4 asks: FULL").releases(0, "1");
        for (String range : new String[] {"", "[1", "(1)", "1,", "[]", "1.", "[1,2,3]"}) {
            edge.ask(0, range, Edge.BAD).wipe(0).count(1, 0);
        }
        edge.solve(0, "------").ask(0, "1", 0);
    }

    private static void askFull() {
        Edge edge = Edge.of("There are at most 4 ASKS").releases(0, "1").ask(0, "1", 0).ask(0, "1", 1).ask(0, "1", 2)
                .ask(0, "1", 3);
        edge.ask(1, "1", Edge.FULL).wipe(0).ask(0, "9", Edge.FULL).wipe(0).count(1, 4).solve(1, "0-----");
        edge.unask(2, 3).ask(0, "1", 3).ask(0, "1", Edge.FULL);
    }

    private static void askBadBeforeFull() {
        Edge edge = Edge.of("BAD; 4 asks: FULL").ask(0, "1", 0).ask(0, "1", 1).ask(0, "1", 2).ask(0, "1", 3);
        edge.ask(0, "", Edge.BAD).ask(0, "(1)", Edge.BAD).wipe(0).ask(0, "1", Edge.FULL).text("(1)")
                .ask(6, "", Edge.REFUSED).wipe(3);
    }

    private static void askOfNoPlugin() {
        Edge edge = Edge.of("One more ask, for the plugin 0 .. 5").text("1");
        for (int plugin : Edge.noPlugins()) {
            edge.ask(plugin, "", Edge.REFUSED).count(0, 1).count(1, 0);
        }
        edge.ask(5, "", 0).ask(0, "1", 1);
    }

    private static void unaskMovesThoseBehind() {
        Edge edge = Edge.of("The ask is gone; those behind it have a number less").stocked();
        edge.ask(0, "1", 0).ask(1, "1", 1).ask(2, "1", 2).ask(3, "1", 3).solve(4, "3333--");
        edge.unask(1, 3).solve(3, "3-33--").unask(1, 2).solve(2, "3--3--").unask(0, 1).solve(1, "---3--").unask(0, 0)
                .solve(0);
        edge.ask(0, "9", 0).ask(1, "1", 1).ask(2, "9", 2).solve(Edge.NONE).blamed("0010").unask(0, 2).solve(Edge.NONE)
                .blamed("0100");
        edge.unask(1, 1).solve(1, "-3----");
    }

    private static void unaskOfNone() {
        Edge edge = Edge.of("REFUSED if there is none").unask(0, Edge.REFUSED).text("1.0");
        for (int asks = 1; asks <= 4; asks++) {
            edge.wipe(3).ask(0, "1", asks - 1).text("1.0").unask(asks, Edge.REFUSED);
            for (int number : Edge.noPlugins()) {
                edge.unask(number, Edge.REFUSED);
            }
            edge.unask(4, Edge.REFUSED).unask(5, Edge.REFUSED).count(1, asks).count(0, 3);
        }
        edge.unask(3, 3).unask(3, Edge.REFUSED).unask(2, 2).unask(1, 1).unask(0, 0).unask(0, Edge.REFUSED).count(1, 0)
                .wipe(3);
    }

    private static void unaskCounts() {
        Edge.of("How many there are").ask(0, "1", 0).ask(0, "1", 1).ask(0, "1", 2).ask(0, "1", 3).unask(0, 3).count(1, 3)
                .unask(2, 2).count(1, 2).unask(0, 1).count(1, 1).unask(0, 0).count(1, 0);
    }
}
