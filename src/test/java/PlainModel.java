import java.util.ArrayList;
import java.util.List;
import java.util.regex.Matcher;
import java.util.regex.Pattern;

/** The document's words taken one by one, without a thought of speed: what the solver is held against. */
final class PlainModel {
    private static final Pattern VERSION = Pattern.compile("[0-9a-z]+([.-][0-9a-z]+)*");
    private static final Pattern ITEM = Pattern.compile("[0-9]+|[a-z]+");
    private static final Pattern BETWEEN = Pattern.compile("([\\[(])([^,]*),([^,]*)([\\])])");

    record Need(int plugin, String range, boolean optional) { }

    record Ask(int plugin, String range) { }

    record Item(int rank, String word, int number) { }

    static final class Release {
        String version;
        List<Need> needs = new ArrayList<>();
        String hostRange = "";
        boolean withdrawn;
    }

    private String text = "";
    private final List<List<Release>> plugins = new ArrayList<>();
    private final List<Ask> asks = new ArrayList<>();
    private String host = "1";
    private int[] selection = null;
    private boolean[] blame = new boolean[4];

    PlainModel() {
        for (int i = 0; i < 6; i++) {
            plugins.add(new ArrayList<>());
        }
    }

    int write(int... characters) {
        StringBuilder more = new StringBuilder();
        for (int character : characters) {
            if (character != 0) {
                if (character < 0 || "0123456789abcdefghijklmnopqrstuvwxyz.-[](),".indexOf(character) < 0) {
                    return -1;
                }
                more.append((char) character);
            }
        }
        if (text.length() + more.length() > 24) {
            return -2;
        }
        text += more;
        return text.length();
    }

    int wipe() {
        return take().length();
    }

    int release(int plugin) {
        if (plugin < 0 || plugin > 5) {
            return -1;
        }
        String version = take();
        if (!isVersion(version)) {
            return -3;
        }
        List<Release> releases = plugins.get(plugin);
        for (Release release : releases) {
            if (compareVersions(release.version, version) == 0) {
                return -5;
            }
        }
        if (releases.size() == 4) {
            return -2;
        }
        Release added = new Release();
        added.version = version;
        releases.add(added);
        return releases.size() - 1;
    }

    int need(int plugin, int release, int other, boolean optional) {
        if (!exists(plugin, release) || other < 0 || other > 5) {
            return -1;
        }
        String range = take();
        List<Need> needs = at(plugin, release).needs;
        if (!isRange(range)) {
            return -3;
        }
        if (needs.size() == 3) {
            return -2;
        }
        needs.add(new Need(other, range, optional));
        return needs.size();
    }

    int needHost(int plugin, int release) {
        if (!exists(plugin, release)) {
            return -1;
        }
        String range = take();
        if (!range.equals("") && !isRange(range)) {
            return -3;
        }
        at(plugin, release).hostRange = range;
        return 0;
    }

    int withdraw(int plugin, int release, boolean on) {
        if (!exists(plugin, release)) {
            return -1;
        }
        at(plugin, release).withdrawn = on;
        return 0;
    }

    int host() {
        String version = take();
        if (!isVersion(version)) {
            return -3;
        }
        host = version;
        return 0;
    }

    int ask(int plugin) {
        if (plugin < 0 || plugin > 5) {
            return -1;
        }
        String range = take();
        if (!isRange(range)) {
            return -3;
        }
        if (asks.size() == 4) {
            return -2;
        }
        asks.add(new Ask(plugin, range));
        return asks.size() - 1;
    }

    int unask(int ask) {
        if (ask < 0 || ask >= asks.size()) {
            return -1;
        }
        asks.remove(ask);
        return asks.size();
    }

    int compare(int plugin, int release, int other, int otherRelease) {
        if (!exists(plugin, release) || !exists(other, otherRelease)) {
            return -9;
        }
        return compareVersions(at(plugin, release).version, at(other, otherRelease).version);
    }

    int rank(int i) {
        String version = take();
        if (!isVersion(version)) {
            return -3;
        }
        List<Item> items = items(version);
        return i < 0 || i >= items.size() ? 6 : items.get(i).rank();
    }

    int within(int plugin, int release) {
        if (!exists(plugin, release)) {
            return -1;
        }
        String range = take();
        if (!isRange(range)) {
            return -3;
        }
        return isIn(at(plugin, release).version, range) ? 1 : 0;
    }

    int solve() {
        blame = new boolean[4];
        selection = best(asks);
        if (selection != null) {
            int having = 0;
            for (int release : selection) {
                having += release >= 0 ? 1 : 0;
            }
            return having;
        }
        List<Ask> stay = new ArrayList<>(asks);
        for (int i = 0; i < asks.size(); i++) {
            // Asks are told apart by which object they are, as two may be alike.
            List<Ask> fewer = new ArrayList<>();
            for (Ask ask : stay) {
                if (ask != asks.get(i)) {
                    fewer.add(ask);
                }
            }
            if (best(fewer) == null) {
                stay = fewer;
            } else {
                blame[i] = true;
            }
        }
        return -4;
    }

    int chosen(int plugin) {
        if (plugin < 0 || plugin > 5) {
            return -1;
        }
        return selection == null || selection[plugin] < 0 ? -4 : selection[plugin];
    }

    boolean blamed(int ask) {
        return ask >= 0 && ask < 4 && blame[ask];
    }

    int unmet() {
        if (selection == null) {
            return -4;
        }
        int open = 0;
        for (Ask ask : asks) {
            int release = selection[ask.plugin()];
            if (release < 0 || !isIn(at(ask.plugin(), release).version, ask.range())) {
                open++;
            }
        }
        return open;
    }

    int count(int what) {
        int releases = 0;
        int withdrawn = 0;
        int needs = 0;
        for (List<Release> plugin : plugins) {
            for (Release release : plugin) {
                releases++;
                withdrawn += release.withdrawn ? 1 : 0;
                needs += release.needs.size();
            }
        }
        int[] counts = {text.length(), asks.size(), releases, withdrawn, needs};
        return what < 0 || what > 4 ? -1 : counts[what];
    }

    private String take() {
        String taken = text;
        text = "";
        return taken;
    }

    private boolean exists(int plugin, int release) {
        return plugin >= 0 && plugin <= 5 && release >= 0 && release < plugins.get(plugin).size();
    }

    private Release at(int plugin, int release) {
        return plugins.get(plugin).get(release);
    }

    private static boolean isVersion(String text) {
        return text.length() <= 12 && VERSION.matcher(text).matches() && !text.matches(".*[0-9]{10}.*");
    }

    private static List<Item> items(String version) {
        List<Item> items = new ArrayList<>();
        Matcher matcher = ITEM.matcher(version);
        while (matcher.find()) {
            String item = matcher.group();
            boolean digitBehind = matcher.end() < version.length() && Character.isDigit(version.charAt(matcher.end()));
            if (Character.isDigit(item.charAt(0))) {
                int number = Integer.parseInt(item);
                items.add(new Item(number == 0 ? 6 : 9, "", number));
            } else {
                items.add(new Item(wordRank(item, digitBehind), item, 0));
            }
        }
        return items;
    }

    private static int wordRank(String word, boolean digitBehind) {
        switch (word) {
            case "alpha": return 1;
            case "beta": return 2;
            case "milestone": return 3;
            case "rc": case "cr": return 4;
            case "snapshot": return 5;
            case "ga": case "final": case "release": return 6;
            case "sp": return 7;
            case "a": return digitBehind ? 1 : 8;
            case "b": return digitBehind ? 2 : 8;
            case "m": return digitBehind ? 3 : 8;
            default: return 8;
        }
    }

    private static int compareVersions(String one, String other) {
        List<Item> first = items(one);
        List<Item> second = items(other);
        Item missing = new Item(6, "", 0);
        for (int i = 0; i < first.size() || i < second.size(); i++) {
            Item a = i < first.size() ? first.get(i) : missing;
            Item b = i < second.size() ? second.get(i) : missing;
            int order = Integer.compare(a.rank(), b.rank());
            if (order == 0 && a.rank() == 8) {
                order = a.word().compareTo(b.word());
            }
            if (order == 0 && a.rank() == 9) {
                order = Integer.compare(a.number(), b.number());
            }
            if (order != 0) {
                return Integer.signum(order);
            }
        }
        return 0;
    }

    private static boolean isRange(String text) {
        if (isVersion(text)) {
            return true;
        }
        if (text.startsWith("[") && text.endsWith("]") && text.length() > 2
                && isVersion(text.substring(1, text.length() - 1))) {
            return true;
        }
        Matcher matcher = BETWEEN.matcher(text);
        return matcher.matches() && (matcher.group(2).isEmpty() || isVersion(matcher.group(2)))
                && (matcher.group(3).isEmpty() || isVersion(matcher.group(3)));
    }

    private static boolean isIn(String version, String range) {
        if (isVersion(range)) {
            return compareVersions(version, range) >= 0;
        }
        Matcher matcher = BETWEEN.matcher(range);
        if (!matcher.matches()) {
            return compareVersions(version, range.substring(1, range.length() - 1)) == 0;
        }
        if (!matcher.group(2).isEmpty()) {
            int order = compareVersions(version, matcher.group(2));
            if (order < 0 || order == 0 && matcher.group(1).equals("(")) {
                return false;
            }
        }
        if (!matcher.group(3).isEmpty()) {
            int order = compareVersions(version, matcher.group(3));
            return order < 0 || order == 0 && matcher.group(4).equals("]");
        }
        return true;
    }

    /** The best good selection among all, or null. */
    private int[] best(List<Ask> counting) {
        int[] tried = {-1, -1, -1, -1, -1, -1};
        int[] found = null;
        boolean more = true;
        while (more) {
            if (isGood(tried, counting) && (found == null || isBetter(tried, found))) {
                found = tried.clone();
            }
            more = step(tried);
        }
        return found;
    }

    private boolean step(int[] tried) {
        for (int plugin = 0; plugin < 6; plugin++) {
            if (tried[plugin] + 1 < plugins.get(plugin).size()) {
                tried[plugin]++;
                return true;
            }
            tried[plugin] = -1;
        }
        return false;
    }

    private boolean isBetter(int[] one, int[] other) {
        for (int plugin = 0; plugin < 6; plugin++) {
            if (one[plugin] != other[plugin]) {
                if (one[plugin] < 0 || other[plugin] < 0) {
                    return other[plugin] < 0;
                }
                return compare(plugin, one[plugin], plugin, other[plugin]) > 0;
            }
        }
        return false;
    }

    private boolean isGood(int[] tried, List<Ask> counting) {
        for (Ask ask : counting) {
            if (tried[ask.plugin()] < 0 || !isIn(at(ask.plugin(), tried[ask.plugin()]).version, ask.range())) {
                return false;
            }
        }
        boolean[] led = led(tried, counting);
        for (int plugin = 0; plugin < 6; plugin++) {
            if (tried[plugin] >= 0 && (!led[plugin] || !isContent(at(plugin, tried[plugin]), tried))) {
                return false;
            }
        }
        return true;
    }

    private boolean isContent(Release release, int[] tried) {
        if (release.withdrawn || !release.hostRange.isEmpty() && !isIn(host, release.hostRange)) {
            return false;
        }
        for (Need need : release.needs) {
            int held = tried[need.plugin()];
            boolean met = held < 0 ? need.optional() : isIn(at(need.plugin(), held).version, need.range());
            if (!met) {
                return false;
            }
        }
        return true;
    }

    private boolean[] led(int[] tried, List<Ask> counting) {
        boolean[] led = new boolean[6];
        for (Ask ask : counting) {
            led[ask.plugin()] = true;
        }
        for (int round = 0; round < 6; round++) {
            for (int plugin = 0; plugin < 6; plugin++) {
                if (led[plugin] && tried[plugin] >= 0) {
                    for (Need need : at(plugin, tried[plugin]).needs) {
                        led[need.plugin()] |= !need.optional();
                    }
                }
            }
        }
        return led;
    }
}
