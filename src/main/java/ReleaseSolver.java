import java.util.ArrayList;
import java.util.Arrays;

/**
 * Chooses releases of plugins so that all asks are met, or tells which asks can't be met together.
 * Versions and ranges come in as one text that is written in small pieces and used up by the call that reads it.
 */
public final class ReleaseSolver {
    public static final int REFUSED = -1;
    public static final int FULL = -2;
    public static final int BAD = -3;
    public static final int NONE = -4;
    public static final int TWICE = -5;

    /** compare answers this for a release that is not there, as -1 says "less" there. */
    private static final int NOT_COMPARED = -9;

    private static final int PLUGINS = 6;
    private static final int MOST_RELEASES = 4;
    private static final int MOST_NEEDS = 3;
    private static final int MOST_ASKS = 4;
    private static final int MOST_CHARACTERS = 24;

    private final StringBuilder text = new StringBuilder();
    private final Plugin[] plugins = new Plugin[PLUGINS];
    private final ArrayList<Ask> asks = new ArrayList<>();
    private final Search search = new Search();
    private Version hostVersion = new Version("1");

    /** Whether the last solve found a selection; false before the first one too. */
    private boolean solved = false;
    private final int[] selection = new int[PLUGINS];
    /** A bit for each blamed ask, by the number that it had in the last solve. */
    private int blame = 0;

    public ReleaseSolver() {
        for (int plugin = 0; plugin < PLUGINS; plugin++) {
            plugins[plugin] = new Plugin();
        }
        Arrays.fill(selection, NONE);
    }

    public int write(int a, int b, int c, int d) {
        if (!isWritable(a) || !isWritable(b) || !isWritable(c) || !isWritable(d)) {
            return REFUSED;
        }
        if (text.length() + lengthOf(a) + lengthOf(b) + lengthOf(c) + lengthOf(d) > MOST_CHARACTERS) {
            return FULL;
        }
        append(a);
        append(b);
        append(c);
        append(d);
        return text.length();
    }

    public int wipe() {
        int length = text.length();
        text.setLength(0);
        return length;
    }

    public int release(int plugin) {
        if (!isPlugin(plugin)) {
            return REFUSED;
        }
        Version version = Version.read(takeText());
        if (version == null) {
            return BAD;
        }
        if (plugins[plugin].hasVersion(version)) {
            return TWICE;
        }
        return plugins[plugin].add(new Release(version));
    }

    public int need(int plugin, int release, int other, boolean optional) {
        Release needing = releaseAt(plugin, release);
        if (needing == null || !isPlugin(other)) {
            return REFUSED;
        }
        Range range = Range.read(takeText());
        if (range == null) {
            return BAD;
        }
        if (needing.needs.size() >= MOST_NEEDS) {
            return FULL;
        }
        needing.needs.add(new Need(other, range, optional));
        return needing.needs.size();
    }

    public int needHost(int plugin, int release) {
        Release needing = releaseAt(plugin, release);
        if (needing == null) {
            return REFUSED;
        }
        String taken = takeText();
        Range range = Range.read(taken);
        if (range == null && !taken.isEmpty()) {
            return BAD;
        }
        needing.hostRange = range;
        return 0;
    }

    public int withdraw(int plugin, int release, boolean on) {
        Release changed = releaseAt(plugin, release);
        if (changed == null) {
            return REFUSED;
        }
        changed.withdrawn = on;
        return 0;
    }

    public int host() {
        Version version = Version.read(takeText());
        if (version == null) {
            return BAD;
        }
        hostVersion = version;
        return 0;
    }

    public int ask(int plugin) {
        if (!isPlugin(plugin)) {
            return REFUSED;
        }
        Range range = Range.read(takeText());
        if (range == null) {
            return BAD;
        }
        if (asks.size() >= MOST_ASKS) {
            return FULL;
        }
        asks.add(new Ask(plugin, range));
        return asks.size() - 1;
    }

    public int unask(int ask) {
        if (ask < 0 || ask >= asks.size()) {
            return REFUSED;
        }
        asks.remove(ask);
        return asks.size();
    }

    public int compare(int plugin, int release, int other, int otherRelease) {
        Release first = releaseAt(plugin, release);
        Release second = releaseAt(other, otherRelease);
        if (first == null || second == null) {
            return NOT_COMPARED;
        }
        return first.version.comparedTo(second.version);
    }

    public int rank(int i) {
        Version version = Version.read(takeText());
        return version == null ? BAD : version.rankOf(i);
    }

    public int within(int plugin, int release) {
        Release tested = releaseAt(plugin, release);
        if (tested == null) {
            return REFUSED;
        }
        Range range = Range.read(takeText());
        if (range == null) {
            return BAD;
        }
        return range.holds(tested.version) ? 1 : 0;
    }

    public int solve() {
        search.prepare(plugins, hostVersion, asks);
        int everyAsk = (1 << asks.size()) - 1;
        solved = search.finds(everyAsk);
        if (solved) {
            blame = 0;
            return keepSelection();
        }
        Arrays.fill(selection, NONE);
        blame = blameAmong(everyAsk);
        return NONE;
    }

    public int chosen(int plugin) {
        return isPlugin(plugin) ? selection[plugin] : REFUSED;
    }

    public boolean blamed(int ask) {
        return ask >= 0 && ask < MOST_ASKS && hasBit(blame, ask);
    }

    public int unmet() {
        if (!solved) {
            return NONE;
        }
        int open = 0;
        for (int i = 0; i < asks.size(); i++) {
            if (!isMet(asks.get(i))) {
                open++;
            }
        }
        return open;
    }

    public int count(int what) {
        switch (what) {
            case 0:
                return text.length();
            case 1:
                return asks.size();
            case 2:
                return countReleases();
            case 3:
                return countWithdrawn();
            case 4:
                return countNeeds();
            default:
                return REFUSED;
        }
    }

    private static boolean isWritable(int character) {
        return character == 0 || isLetter(character) || isDigit(character) || isSeparator(character)
                || character == '[' || character == ']' || character == '(' || character == ')' || character == ',';
    }

    private static boolean isLetter(int character) {
        return character >= 'a' && character <= 'z';
    }

    private static boolean isDigit(int character) {
        return character >= '0' && character <= '9';
    }

    private static boolean isSeparator(int character) {
        return character == '.' || character == '-';
    }

    private static boolean hasBit(int bits, int number) {
        return (bits >> number & 1) != 0;
    }

    private static int lengthOf(int character) {
        return character == 0 ? 0 : 1;
    }

    private void append(int character) {
        if (character != 0) {
            text.append((char) character);
        }
    }

    private String takeText() {
        String taken = text.toString();
        text.setLength(0);
        return taken;
    }

    private static boolean isPlugin(int plugin) {
        return plugin >= 0 && plugin < PLUGINS;
    }

    /** The release, or null if there is no such plugin or release. */
    private Release releaseAt(int plugin, int release) {
        return isPlugin(plugin) ? plugins[plugin].at(release) : null;
    }

    private int keepSelection() {
        int having = 0;
        for (int plugin = 0; plugin < PLUGINS; plugin++) {
            selection[plugin] = search.found(plugin);
            if (selection[plugin] != NONE) {
                having++;
            }
        }
        return having;
    }

    private int blameAmong(int everyAsk) {
        int kept = everyAsk;
        for (int ask = 0; ask < asks.size(); ask++) {
            int fewer = kept & ~(1 << ask);
            if (!search.finds(fewer)) {
                kept = fewer;
            }
        }
        return kept;
    }

    private boolean isMet(Ask ask) {
        Release held = releaseAt(ask.plugin, selection[ask.plugin]);
        return held != null && ask.range.holds(held.version);
    }

    private int countReleases() {
        int sum = 0;
        for (Plugin plugin : plugins) {
            sum += plugin.size();
        }
        return sum;
    }

    private int countWithdrawn() {
        int sum = 0;
        for (Plugin plugin : plugins) {
            sum += plugin.withdrawnReleases();
        }
        return sum;
    }

    private int countNeeds() {
        int sum = 0;
        for (Plugin plugin : plugins) {
            sum += plugin.needsOfReleases();
        }
        return sum;
    }

    /** A version as its items; it is never changed, so that releases and ranges may share it. */
    private static final class Version {
        private static final int MOST_LENGTH = 12;
        private static final int MOST_DIGITS = 9;

        private static final int ALPHA = 1;
        private static final int BETA = 2;
        private static final int MILESTONE = 3;
        private static final int CANDIDATE = 4;
        private static final int SNAPSHOT = 5;
        private static final int PLAIN = 6;
        private static final int SERVICE_PACK = 7;
        private static final int OTHER_WORD = 8;
        private static final int NUMBER = 9;

        /** The items' ranks; those behind the last item are PLAIN, as a missing item is. */
        private final int[] ranks = new int[MOST_LENGTH];
        /** What orders two items of one rank: the number or the word's place in a dictionary, 0 if the rank says all. */
        private final long[] places = new long[MOST_LENGTH];

        /** The text must be a version. */
        Version(String text) {
            Arrays.fill(ranks, PLAIN);
            int item = 0;
            for (int at = 0; at < text.length() && item < MOST_LENGTH; at++) {
                if (startsItem(text, at)) {
                    readItem(item, text, at);
                    item++;
                }
            }
        }

        /** The version that the text is, or null if it is none. */
        static Version read(String text) {
            return isVersion(text) ? new Version(text) : null;
        }

        static boolean isVersion(String text) {
            if (text.isEmpty() || text.length() > MOST_LENGTH) {
                return false;
            }
            // The text's two ends count as separators, so that one rule forbids them there and side by side.
            boolean behindSeparator = true;
            int digits = 0;
            for (int at = 0; at < text.length(); at++) {
                char character = text.charAt(at);
                boolean separator = isSeparator(character);
                digits = isDigit(character) ? digits + 1 : 0;
                boolean known = separator || isDigit(character) || isLetter(character);
                if (!known || separator && behindSeparator || digits > MOST_DIGITS) {
                    return false;
                }
                behindSeparator = separator;
            }
            return !behindSeparator;
        }

        int rankOf(int item) {
            return item >= 0 && item < MOST_LENGTH ? ranks[item] : PLAIN;
        }

        /** -1, 0 or 1, as this version is less than, equal to or greater than the other one. */
        int comparedTo(Version other) {
            for (int item = 0; item < MOST_LENGTH; item++) {
                if (ranks[item] != other.ranks[item]) {
                    return ranks[item] < other.ranks[item] ? -1 : 1;
                }
                if (places[item] != other.places[item]) {
                    return places[item] < other.places[item] ? -1 : 1;
                }
            }
            return 0;
        }

        private static boolean startsItem(String text, int at) {
            char character = text.charAt(at);
            return !isSeparator(character) && (at == 0 || !isOneKind(text.charAt(at - 1), character));
        }

        private static boolean isOneKind(char one, char another) {
            return isDigit(one) && isDigit(another) || isLetter(one) && isLetter(another);
        }

        private void readItem(int item, String text, int start) {
            int end = start + 1;
            while (end < text.length() && isOneKind(text.charAt(start), text.charAt(end))) {
                end++;
            }
            String spelled = text.substring(start, end);
            if (isDigit(text.charAt(start))) {
                places[item] = numberOf(spelled);
                ranks[item] = places[item] == 0 ? PLAIN : NUMBER;
            } else {
                boolean digitBehind = end < text.length() && isDigit(text.charAt(end));
                ranks[item] = rankOfWord(spelled, digitBehind);
                places[item] = ranks[item] == OTHER_WORD ? dictionaryPlace(spelled) : 0;
            }
        }

        private static int rankOfWord(String word, boolean digitBehind) {
            if (word.equals("alpha") || digitBehind && word.equals("a")) {
                return ALPHA;
            }
            if (word.equals("beta") || digitBehind && word.equals("b")) {
                return BETA;
            }
            if (word.equals("milestone") || digitBehind && word.equals("m")) {
                return MILESTONE;
            }
            if (word.equals("rc") || word.equals("cr")) {
                return CANDIDATE;
            }
            if (word.equals("snapshot")) {
                return SNAPSHOT;
            }
            if (word.equals("ga") || word.equals("final") || word.equals("release")) {
                return PLAIN;
            }
            return word.equals("sp") ? SERVICE_PACK : OTHER_WORD;
        }

        private static long numberOf(String digits) {
            long number = 0;
            for (int at = 0; at < digits.length(); at++) {
                number = number * 10 + (digits.charAt(at) - '0');
            }
            return number;
        }

        /** Every word is filled up to the same length with a letter before 'a'; twelve such letters fit a long. */
        private static long dictionaryPlace(String word) {
            long place = 0;
            for (int at = 0; at < MOST_LENGTH; at++) {
                int letter = at < word.length() ? word.charAt(at) - 'a' + 1 : 0;
                place = place * 27 + letter;
            }
            return place;
        }
    }

    /** A range of versions; a bound that is null is none. */
    private static final class Range {
        private final Version lower;
        private final Version upper;
        private final boolean withLower;
        private final boolean withUpper;

        private Range(Version lower, boolean withLower, Version upper, boolean withUpper) {
            this.lower = lower;
            this.withLower = withLower;
            this.upper = upper;
            this.withUpper = withUpper;
        }

        /** The range that the text is, or null if it is none. */
        static Range read(String text) {
            if (Version.isVersion(text)) {
                return new Range(new Version(text), true, null, true);
            }
            int last = text.length() - 1;
            if (last < 1) {
                return null;
            }
            boolean withLower = text.charAt(0) == '[';
            boolean withUpper = text.charAt(last) == ']';
            if (!withLower && text.charAt(0) != '(' || !withUpper && text.charAt(last) != ')') {
                return null;
            }
            String inside = text.substring(1, last);
            if (inside.indexOf(',') >= 0) {
                return readBounds(inside, withLower, withUpper);
            }
            return withLower && withUpper ? readExact(inside) : null;
        }

        boolean holds(Version version) {
            if (lower != null && version.comparedTo(lower) < (withLower ? 0 : 1)) {
                return false;
            }
            return upper == null || version.comparedTo(upper) <= (withUpper ? 0 : -1);
        }

        private static Range readExact(String inside) {
            if (!Version.isVersion(inside)) {
                return null;
            }
            Version version = new Version(inside);
            return new Range(version, true, version, true);
        }

        private static Range readBounds(String inside, boolean withLower, boolean withUpper) {
            int comma = inside.indexOf(',');
            String first = inside.substring(0, comma);
            String second = inside.substring(comma + 1, inside.length());
            if (!isBound(first) || !isBound(second)) {
                return null;
            }
            Version lower = first.isEmpty() ? null : new Version(first);
            Version upper = second.isEmpty() ? null : new Version(second);
            return new Range(lower, withLower, upper, withUpper);
        }

        private static boolean isBound(String text) {
            return text.isEmpty() || Version.isVersion(text);
        }
    }

    private static final class Need {
        private final int plugin;
        private final Range range;
        private final boolean optional;

        Need(int plugin, Range range, boolean optional) {
            this.plugin = plugin;
            this.range = range;
            this.optional = optional;
        }
    }

    private static final class Ask {
        private final int plugin;
        private final Range range;

        Ask(int plugin, Range range) {
            this.plugin = plugin;
            this.range = range;
        }
    }

    private static final class Release {
        private final Version version;
        private final ArrayList<Need> needs = new ArrayList<>();
        /** Null if every host will do. */
        private Range hostRange = null;
        private boolean withdrawn = false;

        Release(Version version) {
            this.version = version;
        }

        boolean isUsableOn(Version host) {
            return !withdrawn && (hostRange == null || hostRange.holds(host));
        }
    }

    private static final class Plugin {
        private final ArrayList<Release> releases = new ArrayList<>();
        /** The releases' numbers, the greatest version first; numbers of releases yet to come stand at the end. */
        private final int[] falling = {0, 1, 2, 3};

        int size() {
            return releases.size();
        }

        /** The release, or null if there is none of that number. */
        Release at(int release) {
            return release >= 0 && release < releases.size() ? releases.get(release) : null;
        }

        boolean hasVersion(Version version) {
            for (int i = 0; i < releases.size(); i++) {
                if (releases.get(i).version.comparedTo(version) == 0) {
                    return true;
                }
            }
            return false;
        }

        /** Takes a release in and answers its number; FULL if there is no room. */
        int add(Release added) {
            int number = releases.size();
            if (number >= MOST_RELEASES) {
                return FULL;
            }
            int place = 0;
            for (int i = 0; i < number; i++) {
                if (releases.get(i).version.comparedTo(added.version) > 0) {
                    place++;
                }
            }
            for (int i = number; i > place; i--) {
                falling[i] = falling[i - 1];
            }
            falling[place] = number;
            releases.add(added);
            return number;
        }

        /** A bit for each release whose version is in the range. */
        int releasesIn(Range range) {
            int bits = 0;
            for (int i = 0; i < releases.size(); i++) {
                if (range.holds(releases.get(i).version)) {
                    bits |= 1 << i;
                }
            }
            return bits;
        }

        int withdrawnReleases() {
            int sum = 0;
            for (int i = 0; i < releases.size(); i++) {
                if (releases.get(i).withdrawn) {
                    sum++;
                }
            }
            return sum;
        }

        int needsOfReleases() {
            int sum = 0;
            for (int i = 0; i < releases.size(); i++) {
                sum += releases.get(i).needs.size();
            }
            return sum;
        }
    }

    /**
     * Looks for the best good selection. Each plugin has OPTIONS: its releases' numbers, and NOTHING. Plugins are
     * settled in their order, the better options first, so that the first good selection found is the best one.
     * All rules but LED TO speak of two plugins at most, so they are kept as bits that strike out options.
     */
    private static final class Search {
        private static final int NOTHING = MOST_RELEASES;
        private static final int OPTIONS = MOST_RELEASES + 1;
        private static final int EVERY_OPTION = (1 << OPTIONS) - 1;

        /** By plugin: the options, the better ones first. */
        private final int[][] order = new int[PLUGINS][OPTIONS];
        /** By plugin: the options that its own releases and the host leave it. */
        private final int[] usable = new int[PLUGINS];
        /** By plugin and option (see row), then by other plugin: the other plugin's options that go with it. */
        private final int[][] beside = new int[PLUGINS * OPTIONS][PLUGINS];
        /** By plugin and option (see row): the plugins that it leads to. */
        private final int[] leads = new int[PLUGINS * OPTIONS];
        private final int[] askPlugins = new int[MOST_ASKS];
        private final int[] askOptions = new int[MOST_ASKS];
        private int askCount = 0;
        /** The plugins with an ask among those that count now. */
        private int asked = 0;
        /** By how many plugins are settled, then by plugin: the options left to it. */
        private final int[][] left = new int[PLUGINS + 1][PLUGINS];

        void prepare(Plugin[] plugins, Version hostVersion, ArrayList<Ask> asks) {
            Arrays.fill(leads, 0);
            for (int row = 0; row < PLUGINS * OPTIONS; row++) {
                Arrays.fill(beside[row], EVERY_OPTION);
            }
            for (int plugin = 0; plugin < PLUGINS; plugin++) {
                prepareOrder(plugin, plugins[plugin]);
                for (int i = 0; i < plugins[plugin].size(); i++) {
                    prepareNeeds(plugins, plugin, i);
                }
            }
            for (int plugin = 0; plugin < PLUGINS; plugin++) {
                prepareUsable(plugin, plugins[plugin], hostVersion);
            }
            prepareAsks(plugins, asks);
        }

        /** Whether there is a good selection if only the asks of these bits count; found then tells the best one. */
        boolean finds(int keptAsks) {
            asked = 0;
            for (int plugin = 0; plugin < PLUGINS; plugin++) {
                left[0][plugin] = usable[plugin];
            }
            for (int i = 0; i < askCount; i++) {
                if (hasBit(keptAsks, i)) {
                    asked |= 1 << askPlugins[i];
                    left[0][askPlugins[i]] &= askOptions[i];
                }
            }
            return settle(0);
        }

        int found(int plugin) {
            for (int i = 0; i < MOST_RELEASES; i++) {
                if (hasBit(left[PLUGINS][plugin], i)) {
                    return i;
                }
            }
            return NONE;
        }

        private static int row(int plugin, int option) {
            return plugin * OPTIONS + option;
        }

        private void prepareOrder(int plugin, Plugin from) {
            System.arraycopy(from.falling, 0, order[plugin], 0, MOST_RELEASES);
            order[plugin][NOTHING] = NOTHING;
        }

        private void prepareNeeds(Plugin[] plugins, int plugin, int number) {
            Release release = plugins[plugin].at(number);
            if (release == null) {
                return;
            }
            for (int i = 0; i < release.needs.size(); i++) {
                Need need = release.needs.get(i);
                int fitting = plugins[need.plugin].releasesIn(need.range);
                if (need.optional) {
                    fitting |= 1 << NOTHING;
                } else {
                    leads[row(plugin, number)] |= 1 << need.plugin;
                }
                keepOnly(plugin, number, need.plugin, fitting);
            }
        }

        /** Both ways round, so that whichever plugin is settled first, the other one's options dwindle at once. */
        private void keepOnly(int plugin, int option, int other, int fitting) {
            beside[row(plugin, option)][other] &= fitting;
            for (int i = 0; i < OPTIONS; i++) {
                if (!hasBit(fitting, i)) {
                    beside[row(other, i)][plugin] &= ~(1 << option);
                }
            }
        }

        private void prepareUsable(int plugin, Plugin from, Version hostVersion) {
            usable[plugin] = 1 << NOTHING;
            for (int i = 0; i < from.size(); i++) {
                Release release = from.at(i);
                // A release that needs its own plugin must itself be what it needs.
                boolean goesWithItself = hasBit(beside[row(plugin, i)][plugin], i);
                if (release != null && release.isUsableOn(hostVersion) && goesWithItself) {
                    usable[plugin] |= 1 << i;
                }
            }
        }

        private void prepareAsks(Plugin[] plugins, ArrayList<Ask> asks) {
            askCount = Math.min(asks.size(), MOST_ASKS);
            for (int i = 0; i < askCount; i++) {
                Ask ask = asks.get(i);
                askPlugins[i] = ask.plugin;
                askOptions[i] = plugins[ask.plugin].releasesIn(ask.range);
            }
        }

        private boolean settle(int plugin) {
            if (plugin >= PLUGINS) {
                return true;
            }
            for (int i = 0; i < OPTIONS; i++) {
                if (tryOption(plugin, order[plugin][i]) && settle(plugin + 1)) {
                    return true;
                }
            }
            return false;
        }

        /** Gives the plugin the option; false if that leaves no good selection as far as can be seen yet. */
        private boolean tryOption(int plugin, int option) {
            int[] before = left[plugin];
            int[] after = left[plugin + 1];
            if (!hasBit(before[plugin], option)) {
                return false;
            }
            int[] fitting = beside[row(plugin, option)];
            for (int other = 0; other < PLUGINS; other++) {
                after[other] = before[other] & fitting[other];
                if (after[other] == 0) {
                    return false;
                }
            }
            after[plugin] = 1 << option;
            return allMayBeLedTo(after);
        }

        /** Whether each plugin that must have a release may be led to; with one option each, whether it is. */
        private boolean allMayBeLedTo(int[] options) {
            int led = asked;
            for (int step = 1; step < PLUGINS; step++) {
                int more = led | leadsFrom(led, options);
                if (more == led) {
                    break;
                }
                led = more;
            }
            for (int plugin = 0; plugin < PLUGINS; plugin++) {
                if (!hasBit(options[plugin], NOTHING) && !hasBit(led, plugin)) {
                    return false;
                }
            }
            return true;
        }

        private int leadsFrom(int led, int[] options) {
            int more = 0;
            for (int plugin = 0; plugin < PLUGINS; plugin++) {
                for (int i = 0; hasBit(led, plugin) && i < MOST_RELEASES; i++) {
                    if (hasBit(options[plugin], i)) {
                        more |= leads[row(plugin, i)];
                    }
                }
            }
            return more;
        }
    }
}
