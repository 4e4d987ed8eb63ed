import java.util.ArrayList;
import java.util.List;
import java.util.Map;
import java.util.TreeMap;
import java.util.function.IntPredicate;

/**
 * The document once more, told as plainly as the Java library allows and with nothing shared with the class:
 * paths are texts (the top is the empty one), so that "above" is "begins with".
 */
final class Model {
    private static final class Node {
        Integer content; // null for a collection
        final List<Integer> versions = new ArrayList<>();
        final List<String> members = new ArrayList<>();

        Node(Integer content) {
            this.content = content;
        }
    }

    private record Lock(int client, String path, boolean isShared, boolean isDeep) {
        boolean covers(String other) {
            return isDeep ? other.startsWith(path) : other.equals(path);
        }
    }

    private final TreeMap<String, Node> nodes = new TreeMap<>();
    private final TreeMap<Integer, Lock> locks = new TreeMap<>();
    private final TreeMap<Integer, Integer> ends = new TreeMap<>();
    private final List<Integer> failed = new ArrayList<>();
    private int made = 0;
    private int now = 0;

    Model() {
        nodes.put("", new Node(null));
    }

    int makeCollection(int client, int number, int tokens) {
        client(client);
        String path = belowTop(number);
        atLeast(tokens, 0);
        if (!isCollection(up(path))) {
            return 1;
        }
        if (nodes.containsKey(path)) {
            return 2;
        }
        if (!may(client, up(path), tokens) || !may(client, path, tokens)) {
            return 4;
        }
        if (resources() == 60) {
            return 5;
        }
        add(path, new Node(null));
        return 0;
    }

    int put(int client, int number, int content, int expected, int tokens) {
        client(client);
        String path = belowTop(number);
        between(content, 0, 999);
        between(expected, -1, 999);
        atLeast(tokens, 0);
        Node node = nodes.get(path);
        if (!isCollection(up(path))) {
            return 1;
        }
        if (node != null && node.content == null) {
            return 2;
        }
        if (expected != -1 && (node == null || node.content != expected)) {
            return 3;
        }
        if (!may(client, path, tokens) || node == null && !may(client, up(path), tokens)) {
            return 4;
        }
        if (node == null && resources() == 60) {
            return 5;
        }
        if (node == null) {
            add(path, new Node(content));
        } else {
            node.content = content;
        }
        return 0;
    }

    int delete(int client, int number, int tokens) {
        client(client);
        String path = belowTop(number);
        atLeast(tokens, 0);
        failed.clear();
        if (!nodes.containsKey(path)) {
            return 1;
        }
        if (!may(client, path, tokens) || !may(client, up(path), tokens)) {
            return 4;
        }
        List<String> stay = new ArrayList<>();
        for (String one : tree(path)) {
            if (!one.equals(path) && !may(client, one, tokens)) {
                stay.add(one);
                failed.add(Integer.parseInt(one));
            }
        }
        failed.sort(null);
        for (String one : tree(path)) {
            if (stay.stream().noneMatch(kept -> kept.startsWith(one))) {
                remove(one);
            }
        }
        return stay.isEmpty() ? 0 : 6;
    }

    int failures() {
        return failed.size();
    }

    int failureAt(int place) {
        place(place, failed.size());
        return failed.get(place);
    }

    int copy(int client, int from, int to, boolean overwrite, int tokens) {
        return transfer(client, from, to, overwrite, tokens, false);
    }

    int move(int client, int from, int to, boolean overwrite, int tokens) {
        return transfer(client, from, to, overwrite, tokens, true);
    }

    private int transfer(int client, int fromNumber, int toNumber, boolean overwrite, int tokens, boolean isMove) {
        client(client);
        String from = belowTop(fromNumber);
        String to = belowTop(toNumber);
        atLeast(tokens, 0);
        if (from.startsWith(to) || to.startsWith(from)) {
            throw new IllegalArgumentException();
        }
        List<String> source = tree(from);
        List<String> target = tree(to);
        if (source.isEmpty() || !isCollection(up(to))) {
            return 1;
        }
        for (String one : source) {
            if (one.length() - from.length() + to.length() > 4) {
                return 1;
            }
        }
        if (!overwrite && !target.isEmpty()) {
            return 2;
        }
        List<String> asked = new ArrayList<>(target);
        asked.add(to);
        asked.add(up(to));
        if (isMove) {
            asked.addAll(source);
            asked.add(up(from));
        }
        for (String one : asked) {
            if (!may(client, one, tokens)) {
                return 4;
            }
        }
        if (!isMove && resources() - target.size() + source.size() > 60) {
            return 5;
        }
        Map<String, Node> taken = new TreeMap<>();
        for (String one : source) {
            taken.put(one, nodes.get(one));
        }
        target.forEach(this::remove);
        if (isMove) {
            source.forEach(this::remove);
        }
        transplant(taken, from, to, isMove);
        return 0;
    }

    private void transplant(Map<String, Node> taken, String from, String to, boolean isMove) {
        for (Map.Entry<String, Node> one : taken.entrySet()) {
            Node old = one.getValue();
            Node node = new Node(old.content);
            if (isMove) {
                node.versions.addAll(old.versions);
            }
            for (String member : old.members) {
                node.members.add(to + member.substring(from.length()));
            }
            nodes.put(to + one.getKey().substring(from.length()), node);
        }
        nodes.get(up(to)).members.add(to);
    }

    int kindOf(int number) {
        Node node = nodes.get(path(number));
        return node == null ? -1 : node.content == null ? 2 : 1;
    }

    int content(int number) {
        Node node = nodes.get(path(number));
        return node == null || node.content == null ? -1 : node.content;
    }

    int resources() {
        return nodes.size() - 1;
    }

    int members(int number) {
        Node node = nodes.get(path(number));
        return node == null ? 0 : node.members.size();
    }

    int memberAt(int number, int place) {
        place(place, members(number));
        return Integer.parseInt(nodes.get(path(number)).members.get(place));
    }

    int order(int client, int number, int place, int tokens) {
        client(client);
        String path = belowTop(number);
        atLeast(place, 0);
        atLeast(tokens, 0);
        if (!nodes.containsKey(path)) {
            return 1;
        }
        if (!may(client, up(path), tokens)) {
            return 4;
        }
        List<String> members = nodes.get(up(path)).members;
        members.remove(path);
        members.add(Math.min(place, members.size()), path);
        return 0;
    }

    int lock(int client, int number, boolean isShared, boolean isDeep, int ticks, int tokens) {
        client(client);
        String path = path(number);
        between(ticks, 1, 1000);
        atLeast(tokens, 0);
        state(made < 30);
        for (Lock one : locks.values()) {
            if (one.covers(path) || isDeep && one.path().startsWith(path)) {
                state(one.isShared() && isShared);
            }
        }
        if (!nodes.containsKey(path)) {
            state(put(client, number, 0, -1, tokens) == 0);
        }
        locks.put(made, new Lock(client, path, isShared, isDeep));
        ends.put(made, now + ticks);
        return made++;
    }

    int refresh(int client, int token, int ticks) {
        if (!locks.containsKey(token)) {
            throw new IndexOutOfBoundsException();
        }
        client(client);
        between(ticks, 0, 1000);
        state(locks.get(token).client() == client);
        int left = ends.get(token) - now;
        ends.put(token, now + ticks);
        dropLocks(one -> ends.get(one) <= now);
        return left;
    }

    int pass(int ticks) {
        between(ticks, 1, 1000);
        state(now + ticks <= 1000000);
        now += ticks;
        return dropLocks(one -> ends.get(one) <= now);
    }

    int covering(int number) {
        return over(path(number));
    }

    boolean mayChange(int client, int number, int tokens) {
        client(client);
        String path = path(number);
        atLeast(tokens, 0);
        return may(client, path, tokens);
    }

    int keep(int number) {
        Node node = nodes.get(path(number));
        state(node != null && node.content != null && node.versions.size() < 10);
        node.versions.add(node.content);
        return node.versions.size() - 1;
    }

    int restore(int client, int number, int version, int tokens) {
        client(client);
        String path = path(number);
        atLeast(version, 0);
        atLeast(tokens, 0);
        Node node = nodes.get(path);
        if (node == null || version >= node.versions.size()) {
            return 1;
        }
        if (!may(client, path, tokens)) {
            return 4;
        }
        node.content = node.versions.get(version);
        return 0;
    }

    // ---- terms

    private static String path(int number) {
        String text = number == 0 ? "" : Integer.toString(number);
        if (!text.matches("[1-9]{0,4}")) {
            throw new IllegalArgumentException();
        }
        return text;
    }

    private static String belowTop(int number) {
        atLeast(number, 1);
        return path(number);
    }

    private static String up(String path) {
        return path.substring(0, path.length() - 1);
    }

    private static void client(int client) {
        between(client, 0, 3);
    }

    private static void atLeast(int value, int least) {
        between(value, least, Integer.MAX_VALUE);
    }

    private static void between(int value, int least, int most) {
        if (value < least || value > most) {
            throw new IllegalArgumentException();
        }
    }

    private static void state(boolean holds) {
        if (!holds) {
            throw new IllegalStateException();
        }
    }

    private static void place(int place, int size) {
        if (place < 0 || place >= size) {
            throw new IndexOutOfBoundsException();
        }
    }

    private boolean isCollection(String path) {
        Node node = nodes.get(path);
        return node != null && node.content == null;
    }

    private List<String> tree(String root) {
        List<String> found = new ArrayList<>();
        for (String one : nodes.keySet()) {
            if (one.startsWith(root)) {
                found.add(one);
            }
        }
        return found;
    }

    private int over(String path) {
        int set = 0;
        for (Map.Entry<Integer, Lock> one : locks.entrySet()) {
            if (one.getValue().covers(path)) {
                set |= 1 << one.getKey();
            }
        }
        return set;
    }

    private boolean may(int client, String path, int tokens) {
        int over = over(path);
        return over == 0 || locks.keySet().stream().anyMatch(
            one -> locks.get(one).client() == client && (over & tokens & 1 << one) != 0);
    }

    private void add(String path, Node node) {
        nodes.put(path, node);
        nodes.get(up(path)).members.add(path);
    }

    private void remove(String path) {
        nodes.remove(path);
        Node parent = nodes.get(up(path));
        if (parent != null) {
            parent.members.remove(path);
        }
        dropLocks(one -> locks.get(one).path().equals(path));
    }

    private int dropLocks(IntPredicate goes) {
        List<Integer> gone = new ArrayList<>();
        for (int one : locks.keySet()) {
            if (goes.test(one)) {
                gone.add(one);
            }
        }
        gone.forEach(locks::remove);
        return gone.size();
    }
}
