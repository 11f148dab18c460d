/** The edges of the text and the counts, sentence by sentence: Terms, promises 1 to 3 and 18. */
public final class TextEdgesTest {
    private static final String CHARACTERS = "0123456789abcdefghijklmnopqrstuvwxyz.-[](),";
    private static final String TWENTY = "1.2.3.4.5.6.7.8.9.0.";

    public static void main(String[] args) {
        newObject();
        newObjectsHost();
        newObjectsAreApart();
        callsOfOneObject();
        textLength();
        textCharacters();
        mostCallsUseTheTextUp();
        writeAppends();
        writeRefuses();
        writeIsFull();
        writeRefusesFirst();
        writeAnswersTheLength();
        wipe();
        countAtTheLeast();
        countAtTheMost();
        countCountsEachThing();
        countRefuses();
        Edge.end();
    }

    private static void newObject() {
        Edge edge = Edge.of("makes an object in the state that the terms give").chosen("------").blamed("00000")
                .unmet(Edge.NONE);
        edge.wipe(0).unask(0, Edge.REFUSED);
        for (int plugin = 0; plugin < 6; plugin++) {
            edge.withdraw(plugin, 0, false, Edge.REFUSED).compare(plugin, 0, plugin, 0, Edge.NOT_COMPARED);
        }
        edge.anew().rank("", 0, Edge.BAD);
    }

    private static void newObjectsHost() {
        Edge edge = Edge.of("The HOST has a version, \"1\" at first").releases(0, "5").ask(0, "5", 0);
        edge.needHost(0, 0, "[1]", 0).solve(1).needHost(0, 0, "(1,)", 0).solve(Edge.NONE);
        edge.needHost(0, 0, "(,1)", 0).solve(Edge.NONE);
    }

    private static void newObjectsAreApart() {
        Edge one = Edge.of("makes an object").releases(0, "1").ask(0, "1", 0).host("2", 0).solve(1).text("1.0");
        Edge.of("makes an object").count(0, 0).count(1, 0).count(2, 0).chosen("------").unmet(Edge.NONE);
        one.count(0, 3).count(1, 1).count(2, 1).chosen("0-----").unmet(0);
    }

    private static void callsOfOneObject() {
        Edge edge = Edge.of("An object is used for at most 512 calls after it has been made").stocked();
        edge.ask(0, "1", 0);
        while (edge.calls() < 510) {
            edge.solve(1);
        }
        edge.solve(1).chosen(0, 3).due("calls", edge.calls(), 512);
        // Nothing is promised behind them but that no call throws.
        for (int i = 0; i < 5000; i++) {
            edge.solver().write('1', 0, 0, 0);
            edge.solver().ask(i % 7);
            edge.solver().solve();
        }
    }

    private static void textLength() {
        Edge edge = Edge.of("THE TEXT is a row of at most 24 characters");
        for (int length = 1; length <= 24; length++) {
            edge.write('1', 0, 0, 0, length);
        }
        edge.write('1', 0, 0, 0, Edge.FULL).count(0, 24).write(0, 0, 0, '1', Edge.FULL).count(0, 24).wipe(24);
    }

    private static void textCharacters() {
        Edge edge = Edge.of("'0' .. '9', 'a' .. 'z', '.', '-', '[', ']', '(', ')', ','");
        for (int character = 1; character <= 0x20000; character++) {
            boolean allowed = character < 128 && CHARACTERS.indexOf(character) >= 0;
            edge.anew().write(character, 0, 0, 0, allowed ? 1 : Edge.REFUSED).wipe(allowed ? 1 : 0);
        }
    }

    private static void mostCallsUseTheTextUp() {
        Edge edge = Edge.of("Most calls use it up").releases(0, "1").text("1").release(0, "", Edge.TWICE).wipe(0);
        edge.text("2").release(0, "", 1).wipe(0).text("1").need(0, 0, 1, "", 1).wipe(0).text("1").needHost(0, 0, "", 0)
                .wipe(0);
        edge.text("1").host("", 0).wipe(0).text("1").ask(0, "", 0).wipe(0).text("1").rank("", 0, 9).wipe(0);
        edge.text("1").within(0, 0, "", 1).wipe(0);
        edge.text("1.0-").withdraw(0, 0, true, 0).withdraw(0, 0, false, 0).unask(0, 0).compare(0, 0, 0, 1, -1).solve(0);
        edge.chosen("------").blamed("0000").unmet(0).count(1, 0).count(2, 2).write(0, 0, 0, 0, 4).wipe(4);
    }

    private static void writeAppends() {
        Edge edge = Edge.of("Appends up to four characters, 0 standing for none, in their order");
        edge.write(0, 0, 0, 0, 0).write('b', 'e', 't', 'a', 4).rank("", 0, 2);
        String word = "beta";
        // Each pattern of none, some or all of the four places writes the whole word, place by place.
        for (int pattern = 0; pattern < 16; pattern++) {
            int[] places = new int[4];
            int length = 0;
            for (int place = 0; place < 4; place++) {
                boolean used = (pattern >> place & 1) != 0;
                places[place] = used ? word.charAt(length) : 0;
                length += used ? 1 : 0;
            }
            edge.write(places[0], places[1], places[2], places[3], length).text(word.substring(length)).rank("", 0, 2);
        }
        edge.write('r', 0, 0, 0, 1).write(0, 0, 0, 'c', 2).rank("", 0, 4);
        edge.text(TWENTY).write('1', '2', '3', 0, 23).write(0, '4', 0, 0, 24).write(0, 0, 0, 0, 24).wipe(24);
    }

    private static void writeRefuses() {
        Edge edge = Edge.of("One is not 0 and may not stand in a text: REFUSED").releases(0, "1").text("[1");
        int[] wrong = {-1, 1, 32, '/', ':', '`', '{', 'A', 'Z', '+', '*', '_', '@', '\\', '^', 127, 128, 255, 256 + '1',
            0xff11, 65536, 65536 + 'a', -'1', '1' - 256, Integer.MIN_VALUE, Integer.MIN_VALUE + '1', Integer.MAX_VALUE};
        for (int character : wrong) {
            edge.write(character, 0, 0, 0, Edge.REFUSED).write(0, character, 0, 0, Edge.REFUSED);
            edge.write(0, 0, character, 0, Edge.REFUSED).write(0, 0, 0, character, Edge.REFUSED);
            edge.write(character, '1', '1', '1', Edge.REFUSED).write('1', '1', '1', character, Edge.REFUSED).count(0, 2);
            edge.write('1', character, '1', '1', Edge.REFUSED).write('1', '1', character, '1', Edge.REFUSED).count(0, 2);
        }
        edge.write(']', 0, 0, 0, 3).within(0, 0, "", 1);
    }

    private static void writeIsFull() {
        Edge edge = Edge.of("They would be more than 24: FULL");
        edge.text(TWENTY).write('1', 0, 0, 0, 21).write('1', '2', '3', '4', Edge.FULL).count(0, 21);
        edge.write('1', '2', '3', 0, 24).write(0, 0, 0, 0, 24).wipe(24);
        edge.text(TWENTY).write('1', '1', 0, 0, 22).write(0, '2', '3', '4', Edge.FULL).count(0, 22)
                .write(0, 0, '1', '1', 24);
        edge.wipe(24).text(TWENTY).write('1', '1', '1', 0, 23).write(0, '2', '3', 0, Edge.FULL).count(0, 23);
        edge.write(0, '1', 0, 0, 24).write(0, 0, '1', 0, Edge.FULL).wipe(24);
        edge.text(TWENTY).write('1', '2', '3', '4', 24).wipe(24);
        // What was full appended none of its characters: the text reads as before.
        edge.releases(0, "1").text("[1.2.3.4.5,1.2.3.4.5.6").write('7', ']', '8', 0, Edge.FULL).write(']', 0, 0, 0, 23);
        edge.within(0, 0, "", 0);
    }

    private static void writeRefusesFirst() {
        Edge edge = Edge.of("One is not 0 and may not stand in a text: REFUSED. They would be more than 24: FULL");
        edge.text(TWENTY).text("1234").write('1', '1', '1', '!', Edge.REFUSED).write('!', '1', '1', '1', Edge.REFUSED);
        edge.write(0, 0, 0, -1, Edge.REFUSED).write('1', '1', '1', '1', Edge.FULL).count(0, 24);
    }

    private static void writeAnswersTheLength() {
        Edge.of("Else the text's length").write('1', '2', '3', '4', 4).write(0, '1', 0, '2', 6).write(0, 0, 0, 0, 6)
                .write(0, 0, '.', 0, 7).count(0, 7);
    }

    private static void wipe() {
        Edge edge = Edge.of("The text is empty. Its length before.").wipe(0).text("1").wipe(1).wipe(0).count(0, 0);
        edge.text(TWENTY).text("1234").wipe(24).count(0, 0).rank("", 0, Edge.BAD);
        edge.text(TWENTY).text("1234").wipe(24).text("[1").wipe(2).rank("rc", 0, 4);
    }

    private static void countAtTheLeast() {
        Edge edge = Edge.of("The text's length (0), asks (1), releases of all plugins (2), withdrawn ones (3), needs of all releases (4)");
        for (int what = 0; what < 5; what++) {
            edge.count(what, 0);
        }
    }

    private static void countAtTheMost() {
        Edge edge = Edge.of("at most 4; a release has a version, at most 3 NEEDS").stocked();
        for (int plugin = 0; plugin < 6; plugin++) {
            for (int release = 0; release < 4; release++) {
                for (int need = 1; need <= 3; need++) {
                    edge.need(plugin, release, 5 - plugin, "1", need);
                }
            }
        }
        edge.count(2, 24).count(3, 0).count(4, 72);
        for (int plugin = 0; plugin < 6; plugin++) {
            for (int release = 0; release < 4; release++) {
                edge.withdraw(plugin, release, true, 0);
            }
        }
        for (int ask = 0; ask < 4; ask++) {
            edge.ask(0, "1", ask);
        }
        edge.text(TWENTY).text("1234").count(0, 24).count(1, 4).count(2, 24).count(3, 24).count(4, 72);
    }

    private static void countCountsEachThing() {
        Edge edge = Edge.of("count(int what)").releases(0, "1").releases(5, "1", "2").count(2, 3);
        edge.withdraw(5, 1, true, 0).withdraw(5, 1, true, 0).withdraw(0, 0, true, 0).count(3, 2);
        edge.withdraw(0, 0, false, 0).count(3, 1).count(2, 3);
        edge.need(5, 1, 0, "1", 1).optional(5, 1, 0, "1", 2).need(0, 0, 0, "1", 1).needHost(0, 0, "1", 0).count(4, 3);
        edge.ask(1, "1", 0).ask(1, "1", 1).ask(2, "1", 2).unask(0, 2).count(1, 2).text("1.0").count(0, 3).count(0, 3);
    }

    private static void countRefuses() {
        Edge edge = Edge.of("needs of all releases (4); else REFUSED").text("1");
        int[] wrong = {-1, 5, 6, -4, 8, 32, 256, 1 << 16, Integer.MIN_VALUE, Integer.MIN_VALUE + 4, Integer.MAX_VALUE};
        for (int what : wrong) {
            edge.count(what, Edge.REFUSED);
        }
        edge.count(0, 1);
    }
}
