import java.util.ArrayList;
import java.util.List;

/** What the tests of single sentences have in common. Each refused call is looked at for what it has changed. */
abstract class Part {
    static final int NONE = ShelfServer.NONE;
    static final int DONE = ShelfServer.DONE;
    static final int MISSING = ShelfServer.MISSING;
    static final int EXISTS = ShelfServer.EXISTS;
    static final int CONDITION = ShelfServer.CONDITION;
    static final int LOCKED = ShelfServer.LOCKED;
    static final int FULL = ShelfServer.FULL;
    static final int PARTLY = ShelfServer.PARTLY;
    static final int FILE = ShelfServer.FILE;
    static final int COLLECTION = ShelfServer.COLLECTION;
    static final int LEAST = Integer.MIN_VALUE;
    static final int MOST = Integer.MAX_VALUE;
    static final int[] PATHS = {1, 9, 11, 19, 91, 99, 111, 999, 1111, 9999};
    static final int[] NO_PATHS = {
        -1, -9, -11, -9999, LEAST, 10, 90, 101, 110, 100, 1011, 1101, 1110, 1000, 9990, 9909, 9099,
        10000, 11110, 11111, 99999, 111111, 111111111, MOST,
    };

    /** Makes a server in some state, the same one each time. */
    interface Start {
        ShelfServer made();
    }

    interface Ask {
        long of(ShelfServer server);
    }

    interface AskWith {
        long of(ShelfServer server, int value);
    }

    final Sentences it;
    private String section = "";

    Part(Sentences it) {
        this.it = it;
    }

    abstract void run();

    void promise(int number) {
        section = "Promise " + number;
    }

    void section(String name) {
        section = name;
    }

    void of(String text) {
        it.of(section, text);
    }

    void promisesNothing(String text) {
        it.promisesNothing(section, text);
    }

    // ---- refused calls

    void refused(String what, long outcome, Start start, Ask call) {
        ShelfServer asked = start.made();
        it.due(what, outcome, call.of(asked));
        unchanged(what, start, asked);
    }

    void badArgument(String what, Start start, Ask call) {
        ShelfServer asked = start.made();
        it.badArgument(what, () -> call.of(asked));
        unchanged(what, start, asked);
    }

    void badState(String what, Start start, Ask call) {
        ShelfServer asked = start.made();
        it.badState(what, () -> call.of(asked));
        unchanged(what, start, asked);
    }

    void badPlace(String what, Start start, Ask call) {
        ShelfServer asked = start.made();
        it.badPlace(what, () -> call.of(asked));
        unchanged(what, start, asked);
    }

    void unchanged(String what, Start start, ShelfServer asked) {
        List<String> want = Look.at(start.made());
        List<String> got = Look.at(asked);
        it.yes(what + " changes nothing", want.equals(got));
        for (int i = 0; i < want.size() && i < got.size(); i++) {
            if (!want.get(i).equals(got.get(i))) {
                it.tell(what + " changed \"" + want.get(i) + "\" to \"" + got.get(i) + "\"");
                return;
            }
        }
    }

    // ---- ranges of arguments

    /** The first and the last value are taken, and those beyond are refused. */
    void range(int least, int most, Start start, AskWith call) {
        for (int value : new int[] {least, most}) {
            it.inRange("with " + value, () -> call.of(start.made(), value));
        }
        for (int value : beyond(least, most)) {
            badArgument("with " + value, start, server -> call.of(server, value));
        }
    }

    private static List<Integer> beyond(int least, int most) {
        List<Integer> values = new ArrayList<>();
        values.add(least - 1);
        values.add(LEAST);
        if (most < MOST) {
            values.add(most + 1);
            values.add(MOST);
        }
        return values;
    }

    void clients(Start start, AskWith call) {
        of("`client`: 0 to 3");
        range(0, 3, start, call);
    }

    void tokens(String text, Start start, AskWith call) {
        of(text);
        range(0, MOST, start, call);
    }

    void tokens(Start start, AskWith call) {
        tokens("`tokens`: a set of tokens, 0 or more", start, call);
    }

    void pathsWithTop(Start start, AskWith call) {
        of("`path`: a path");
        paths(start, call);
        it.inRange("the top", () -> call.of(start.made(), 0));
    }

    void pathsBelowTop(String text, Start start, AskWith call) {
        of(text);
        paths(start, call);
        badArgument("the top", start, server -> call.of(server, 0));
    }

    void pathsBelowTop(Start start, AskWith call) {
        pathsBelowTop("`path`: a path, not the top", start, call);
    }

    void paths(Start start, AskWith call) {
        for (int path : PATHS) {
            it.inRange("path " + path, () -> call.of(start.made(), path));
        }
        for (int path : NO_PATHS) {
            badArgument("path " + path, start, server -> call.of(server, path));
        }
    }

    // ---- servers

    static void files(ShelfServer server, int... paths) {
        for (int path : paths) {
            server.put(0, path, path % 1000, NONE, MOST);
        }
    }

    static void collections(ShelfServer server, int... paths) {
        for (int path : paths) {
            server.makeCollection(0, path, MOST);
        }
    }

    static int shared(ShelfServer server, int client, int path) {
        return server.lock(client, path, true, false, 50, MOST);
    }

    static int sharedDeep(ShelfServer server, int client, int path) {
        return server.lock(client, path, true, true, 50, MOST);
    }

    static int exclusive(ShelfServer server, int client, int path) {
        return server.lock(client, path, false, false, 50, MOST);
    }

    static int exclusiveDeep(ShelfServer server, int client, int path) {
        return server.lock(client, path, false, true, 50, MOST);
    }

    void members(ShelfServer server, int path, int... want) {
        it.due("members of " + path, want.length, server.members(path));
        for (int place = 0; place < want.length; place++) {
            it.due("member " + place + " of " + path, want[place], server.memberAt(path, place));
        }
    }

    /** The collections 1 (with 11, that has 111 and 112, and with 12) and 2 (with 21), and the file 3. */
    static ShelfServer tree() {
        ShelfServer server = new ShelfServer();
        collections(server, 1, 11, 2);
        files(server, 111, 112, 12, 21, 3);
        return server;
    }

    /** The tree, and the empty collection 4. */
    static ShelfServer withEmpty() {
        ShelfServer server = tree();
        collections(server, 4);
        return server;
    }

    /** The tree, of which client 1 has 11, but not what is in it. */
    static ShelfServer parentLocked() {
        ShelfServer server = tree();
        exclusive(server, 1, 11);
        return server;
    }

    /** The tree with locks of all kinds, two of which are gone, with versions, and with a failure of a delete. */
    static ShelfServer rich() {
        ShelfServer server = lockedTree();
        server.delete(0, 11, 0);
        files(server, 111);
        return server;
    }

    /** Client 1 has 112 (token 0), client 2 has 2 with all below and client 3 has 2 alone (tokens 1 and 2). */
    static ShelfServer lockedTree() {
        ShelfServer server = tree();
        server.keep(3);
        server.put(0, 3, 10, NONE, 0);
        server.keep(3);
        server.keep(112);
        server.order(0, 2, 2, 0);
        exclusive(server, 1, 112);
        sharedDeep(server, 2, 2);
        shared(server, 3, 2);
        server.lock(0, 3, false, false, 7, 0);
        server.pass(7);
        exclusive(server, 0, 3);
        server.refresh(0, 4, 0);
        return server;
    }

    /** 60 resources: 1 to 5 with nine files each, 6 with six, and 7 with 71 and 72. */
    static ShelfServer fullServer() {
        return ResourceTest.fullServer();
    }
}
