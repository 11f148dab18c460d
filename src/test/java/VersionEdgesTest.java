/** The edges of versions, their items, ranks and order, sentence by sentence: Terms, promises 11 and 12. */
public final class VersionEdgesTest {
    private static final int LESS = -1;
    private static final int EQUAL = 0;
    private static final int GREATER = 1;

    public static void main(String[] args) {
        length();
        characters();
        ends();
        neighbours();
        digits();
        items();
        ranksOfWords();
        otherWords();
        shortWords();
        numbers();
        missingItems();
        comparingToTheLongersLast();
        theFirstThatDiffer();
        lessRanks();
        dictionary();
        lessNumbers();
        noDifference();
        equalVersions();
        compareAnswers();
        compareRefuses();
        rankOfNoItem();
        rankOfNoVersion();
        rankUsesUp();
        Edge.end();
    }

    /** Every call that reads a version takes the text, or none does. */
    private static void versions(Edge edge, boolean good, String... texts) {
        for (String text : texts) {
            edge.anew().releases(0, "0-1").rank(text, 99, good ? 6 : Edge.BAD).wipe(0);
            edge.release(1, text, good ? 0 : Edge.BAD).wipe(0).host(text, good ? 0 : Edge.BAD).wipe(0);
            edge.count(2, good ? 2 : 1);
        }
    }

    private static void length() {
        Edge edge = Edge.of("A VERSION is a text of 1 .. 12");
        versions(edge, true, "1", "0", "a", "z", "9", "12", "1.2.3.4.5.6", "1.2.3.4.5.67", "abcdefghijkl", "1a2b3c4d5e6f");
        versions(edge, false, "", "1.2.3.4.5.6.7", "abcdefghijklm", "1a2b3c4d5e6f7", "1.2.3.4.5.6.7.8.9.0.1.23",
                "abcdefghijklmnopqrstuvwx");
    }

    private static void characters() {
        Edge edge = Edge.of("of the digits, letters, '.' and '-'");
        versions(edge, true, "01234.56789", "abcdefghijkl", "mnopqrstuvwx", "yz", "1.a", "1-a");
        for (String other : new String[] {"[", "]", "(", ")", ","}) {
            versions(edge, false, other, other + "1", "1" + other, "1" + other + "1", "1." + other + "1", "a" + other);
        }
        versions(edge, false, "[1]", "(1)", "[1,2]", "(,)", "1,2");
    }

    private static void ends() {
        Edge edge = Edge.of("that neither begins nor ends with '.' or '-'");
        versions(edge, true, "1.1", "1-1");
        versions(edge, false, ".1", "-1", "1.", "1-", ".a", "-a", "a.", "a-", ".", "-", ".1.", "-1-", "1.1.", "-1.1",
                "a1b2c3d4e5f.");
    }

    private static void neighbours() {
        Edge edge = Edge.of("has no two of these side by side");
        versions(edge, true, "1.1.1", "1-1-1", "1.1-1", "a.b-c.d");
        versions(edge, false, "1..1", "1--1", "1.-1", "1-.1", "a..b", "a-.b", "1...1", "1.1..1", "1.1-1--1", "..", "--",
                ".-", "-.");
    }

    private static void digits() {
        Edge edge = Edge.of("no more than 9 digits side by side");
        versions(edge, true, "123456789", "000000000", "a123456789", "123456789a", "x.123456789", "123456789.12",
                "12.123456789",
                "123456789a12", "12345-678901", "12345a67890a");
        versions(edge, false, "1234567890", "0000000000", "0000000001", "a1234567890", "1234567890a", "1.1234567890",
                "1234567890.1", "12345678901", "123456789012", "ab1234567890");
    }

    private static void ranks(Edge edge, String version, int... ranks) {
        edge.anew();
        for (int item = 0; item < ranks.length; item++) {
            edge.rank(version, item, ranks[item]);
        }
        edge.rank(version, ranks.length, 6);
    }

    private static void items() {
        Edge edge = Edge.of("Its ITEMS are the longest rows of digits (NUMBERS) and of letters (WORDS) in it, in their order");
        ranks(edge, "5", 9);
        ranks(edge, "x", 8);
        ranks(edge, "10", 9);
        ranks(edge, "rcx", 8);
        ranks(edge, "xrc", 8);
        ranks(edge, "1x", 9, 8);
        ranks(edge, "x1", 8, 9);
        ranks(edge, "sp1rc2", 7, 9, 4, 9);
        ranks(edge, "1.2-sp", 9, 9, 7);
        ranks(edge, "rc.sp-beta", 4, 7, 2);
        ranks(edge, "0.0-0", 6, 6, 6);
        ranks(edge, "1a1b1m1x1z1z", 9, 1, 9, 2, 9, 3, 9, 8, 9, 8, 9, 8);
        ranks(edge, "a1b1m1x1z1z1", 1, 9, 2, 9, 3, 9, 8, 9, 8, 9, 8, 9);
    }

    private static void ranksOfWords() {
        String[] words = {"alpha", "beta", "milestone", "rc", "cr", "snapshot", "ga", "final", "release", "sp"};
        int[] ranks = {1, 2, 3, 4, 4, 5, 6, 6, 6, 7};
        for (int i = 0; i < words.length; i++) {
            Edge edge = Edge.of("\"" + words[i] + "\"");
            edge.rank(words[i], 0, ranks[i]).rank("1" + words[i], 1, ranks[i]).rank("1." + words[i], 1, ranks[i]);
            edge.rank("1-" + words[i], 1, ranks[i]).rank(words[i] + "1", 0, ranks[i]).rank(words[i] + ".1", 0, ranks[i]);
            // A letter more or less, at either end, makes it another word; "a" is what is left of "ga".
            edge.rank(words[i] + "x", 0, 8).rank("x" + words[i], 0, 8).rank(words[i].substring(1), 0, 8);
            edge.rank(words[i].substring(0, words[i].length() - 1), 0, 8);
        }
    }

    private static void otherWords() {
        Edge edge = Edge.of("any other WORD 8");
        for (char letter = 'a'; letter <= 'z'; letter++) {
            edge.rank(String.valueOf(letter), 0, 8).rank("1." + letter, 1, 8);
        }
        for (String word : new String[] {"ar", "cc", "crc", "rcr", "gaga", "rel", "abcdefghijkl", "zzzzzzzzzzzz", "spsp"}) {
            edge.rank(word, 0, 8);
        }
        edge.rank("c1", 0, 8).rank("l1", 0, 8).rank("n1", 0, 8).rank("z1", 0, 8).rank("d1", 0, 8);
    }

    private static void shortWords() {
        Edge edge = Edge.of("\"a\", \"b\" or \"m\" with a digit right behind it 1, 2, 3");
        String[] words = {"a", "b", "m"};
        for (int i = 0; i < words.length; i++) {
            String word = words[i];
            edge.anew().rank(word + "1", 0, i + 1).rank(word + "0", 0, i + 1).rank(word + "9", 0, i + 1);
            edge.rank("1" + word + "1", 1, i + 1).rank("1." + word + "1", 1, i + 1).rank("1-" + word + "123", 1, i + 1);
            edge.rank("1.2.3.4.5-" + word + "1", 5, i + 1);
            edge.rank(word, 0, 8).rank(word + ".1", 0, 8).rank(word + "-1", 0, 8).rank("1" + word, 1, 8);
            edge.rank(word + word + "1", 0, 8).rank("x" + word + "1", 0, 8).rank(word + "x1", 0, 8).rank(word + ".x1", 0, 8);
            edge.rank("1.2.3.4.5.6" + word, 6, 8);
        }
    }

    private static void numbers() {
        Edge edge = Edge.of("a NUMBER 9, but one that is 0 has 6");
        edge.rank("1", 0, 9).rank("9", 0, 9).rank("01", 0, 9).rank("10", 0, 9).rank("000000001", 0, 9)
                .rank("100000000", 0, 9);
        edge.rank("999999999", 0, 9).rank("0", 0, 6).rank("00", 0, 6).rank("000000000", 0, 6).rank("1.0", 1, 6)
                .rank("x0", 1, 6);
        edge.rank("1.0.1", 2, 9);
    }

    private static void missingItems() {
        Edge edge = Edge.of("A missing item has RANK 6");
        edge.rank("5", 1, 6).rank("1a1a1a1a1a1a", 12, 6);
        // Against a missing item each rank below 6 is less, each above is greater, 6 is no difference.
        String[] behind = {"alpha", "beta", "milestone", "rc", "cr", "snapshot", "ga", "final", "release", "sp", "x", "1",
                "0"};
        int[] order = {LESS, LESS, LESS, LESS, LESS, LESS, EQUAL, EQUAL, EQUAL, GREATER, GREATER, GREATER, EQUAL};
        for (int i = 0; i < behind.length; i++) {
            edge.compared("2." + behind[i], "2", order[i]);
        }
    }

    private static void comparingToTheLongersLast() {
        Edge edge = Edge.of("item by item from the first ones on, up to the longer one's last");
        edge.compared("1", "1.0.0.0.0.1", LESS).compared("1", "1.0.0.0.0-a", LESS).compared("1", "1.0.0.0-rc", GREATER);
        edge.compared("1.0.0.0.0.0", "1", EQUAL).compared("1.1.1.1.1.1", "1.1.1.1.1.2", LESS);
        edge.compared("1x1x1x1x1x1x", "1x1x1x1x1x1y", LESS).compared("1x1x1x1x1x1", "1x1x1x1x1x1x", LESS);
        edge.compared("0x0x0x0x0x0x", "0x0x0x0x0x", GREATER).compared("1x1x1x1x1x1x", "1x1x1x1x1x1x", EQUAL);
        edge.compared("x1x1x1x1x1x0", "x1x1x1x1x1x1", LESS).compared("x1x1x1x1x1x0", "x1x1x1x1x1x", EQUAL);
    }

    private static void theFirstThatDiffer() {
        Edge edge = Edge.of("the first two that differ decide");
        edge.compared("1.2.9", "1.3.1", LESS).compared("2-alpha", "1-sp", GREATER).compared("1-rc9", "1-sp1", LESS);
        edge.compared("1.0.9", "1.1", LESS).compared("1-x.1", "1-y", LESS).compared("rc.2", "cr.1", GREATER);
        edge.compared("ga.1", "0.2", LESS).compared("1-beta.9", "1", LESS);
    }

    private static void lessRanks() {
        Edge edge = Edge.of("a less RANK is less");
        String[] rising = {"alpha", "beta", "milestone", "rc", "snapshot", "ga", "sp", "a", "1"};
        for (int i = 0; i < rising.length; i++) {
            for (int j = 0; j < rising.length; j++) {
                edge.compared(rising[i], rising[j], Integer.compare(i, j));
                edge.compared("7." + rising[i], "7." + rising[j], Integer.compare(i, j));
            }
        }
        edge.compared("a1", "a", LESS).compared("m1", "rc1", LESS).compared("b1", "alpha1", GREATER);
        edge.compared("zzzzzzzzzzzz", "1", LESS).compared("zzzzzzzzzzzz", "000000001", LESS).compared("a", "0", GREATER);
    }

    private static void dictionary() {
        Edge edge = Edge.of("both of RANK 8: the less WORD in the order of a dictionary is less");
        String[] rising = {"a", "aa", "aaaaaaaaaaaa", "aab", "ab", "az", "b", "ba", "c", "m", "s", "spa", "x", "y", "yz",
                "z",
            "za", "zz", "zzzzzzzzzzz", "zzzzzzzzzzza", "zzzzzzzzzzzy", "zzzzzzzzzzzz"};
        for (int i = 0; i < rising.length; i++) {
            for (int j = 0; j < rising.length; j++) {
                edge.compared(rising[i], rising[j], Integer.compare(i, j));
            }
        }
        edge.compared("1-abc", "1-abd", LESS).compared("1-ab", "1-abc", LESS).compared("1.x9", "1.y1", LESS);
    }

    private static void lessNumbers() {
        Edge edge = Edge.of("both of RANK 9: the less NUMBER is less");
        String[] rising = {"1", "2", "9", "10", "11", "19", "100", "255", "256", "32767", "32768", "65535", "65536",
                "99999999",
            "100000000", "429496730", "999999998", "999999999"};
        for (int i = 0; i < rising.length; i++) {
            for (int j = 0; j < rising.length; j++) {
                edge.compared(rising[i], rising[j], Integer.compare(i, j));
            }
        }
        edge.compared("000000009", "10", LESS).compared("09", "9", EQUAL).compared("000000001", "1", EQUAL);
        edge.compared("1.9", "1.10", LESS).compared("x.010", "x.9", GREATER);
    }

    private static void noDifference() {
        Edge edge = Edge.of("else they do not differ");
        edge.compared("rc", "cr", EQUAL).compared("ga", "final", EQUAL).compared("final", "release", EQUAL);
        edge.compared("0", "ga", EQUAL).compared("000", "0", EQUAL).compared("alpha1", "a1", EQUAL)
                .compared("beta1", "b1", EQUAL);
        edge.compared("milestone1", "m1", EQUAL).compared("1-rc1", "1.cr1", EQUAL).compared("1-a1", "1-alpha-1", EQUAL);
        edge.compared("snapshot", "snapshot", EQUAL).compared("sp", "sp", EQUAL).compared("alpha", "alpha", EQUAL);
    }

    private static void equalVersions() {
        Edge edge = Edge.of("If none differ, the versions are EQUAL");
        String[] one = {"1", "1.0", "1-0", "1.0.0.0.0.0", "1ga", "1.ga", "1-final", "1.release", "01", "000000001",
                "1-ga-final.0"};
        for (String first : one) {
            for (String second : one) {
                edge.compared(first, second, EQUAL);
            }
        }
        edge.compared("0", "release", EQUAL).compared("x1", "x.01", EQUAL).compared("a", "a.0", EQUAL)
                .compared("a", "a0", GREATER);
    }

    private static void compareAnswers() {
        Edge edge = Edge.of("-1, 0, 1 if the first release's version is less than, EQUAL to, greater than that of the second one");
        edge.releases(0, "1", "999999999", "alpha", "zz").releases(5, "1.0", "2").compare(0, 0, 5, 0, 0)
                .compare(0, 0, 0, 0, 0);
        edge.compare(0, 0, 0, 1, -1).compare(0, 1, 0, 0, 1).compare(0, 2, 5, 1, -1).compare(5, 1, 0, 2, 1);
        edge.compare(0, 3, 0, 2, 1).compare(0, 2, 0, 3, -1).compare(5, 0, 0, 0, 0);
        edge.withdraw(0, 0, true, 0).compare(0, 0, 5, 0, 0).compare(0, 0, 0, 1, -1);
    }

    private static void compareRefuses() {
        Edge edge = Edge.of("REFUSED is -9 here").releases(0, "1", "2").releases(5, "1", "2", "3", "4").text("[1");
        for (int number : Edge.noPlugins()) {
            edge.compare(number, 0, 0, 0, -9).compare(0, 0, number, 0, -9);
            edge.compare(0, number, 0, 0, -9).compare(0, 0, 0, number, -9);
            edge.compare(number, number, number, number, -9);
        }
        edge.compare(0, 2, 0, 0, -9).compare(0, 0, 0, 2, -9).compare(5, 4, 0, 0, -9).compare(0, 0, 5, 4, -9);
        edge.compare(1, 0, 0, 0, -9).compare(0, 0, 1, 0, -9).compare(1, 0, 1, 0, -9).compare(5, 3, 0, 1, 1).count(0, 2);
    }

    private static void rankOfNoItem() {
        Edge edge = Edge.of("the RANK of its item i (from 0), 6 if there is none");
        int[] none = {-1, 1, 2, 11, 12, 13, 32, 256, 1 << 16, -12, Integer.MIN_VALUE, Integer.MIN_VALUE + 1,
                Integer.MAX_VALUE};
        for (int item : none) {
            edge.anew().rank("5", item, 6).rank("rc", item, 6).wipe(0);
        }
        edge.rank("5", 0, 9).rank("rc", 0, 4).rank("1x1x1x1x1x1x", 11, 8).rank("1x1x1x1x1x1x", 12, 6)
                .rank("1x1x1x1x1x1x", -1, 6);
    }

    private static void rankOfNoVersion() {
        Edge edge = Edge.of("6 if there is none; BAD");
        for (int item : new int[] {0, 1, -1, 12, Integer.MIN_VALUE, Integer.MAX_VALUE}) {
            edge.anew().rank("", item, Edge.BAD).rank("1.", item, Edge.BAD).rank("[1]", item, Edge.BAD);
            edge.rank("1234567890", item, Edge.BAD).rank("1.2.3.4.5.6.7", item, Edge.BAD).rank("1..2", item, Edge.BAD);
        }
    }

    private static void rankUsesUp() {
        Edge.of("Of the text, used up, as a VERSION").text("1.0").rank("", 0, 9).wipe(0).text("1.").rank("", 0, Edge.BAD)
                .wipe(0)
                .text("5").rank("", 7, 6).wipe(0).rank("rc", 0, 4);
    }
}
