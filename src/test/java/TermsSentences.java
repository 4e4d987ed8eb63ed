/** The document's 'What it is' and 'Terms', but for what a call changes or throws: RefusalSentences has that. */
final class TermsSentences extends Part {
    TermsSentences(Sentences it) {
        super(it);
    }

    @Override
    void run() {
        section("What it is");
        promisesNothing("A file server: a tree of collections and files, locks that are shared or not, deep or not, "
            + "also on names at which nothing is yet, changes that need their tokens, trees that are deleted with "
            + "partial failures, copied and moved, conditions on contents, kept versions, and members in an order.");
        calls();
        section("Terms");
        digits();
        top();
        parents();
        above();
        below();
        mostResources();
        contents();
        orders();
        clients();
        time();
        locks();
        ends();
        numbers();
        covers();
        sets();
        mayChange();
        goesWithItsLocks();
        makes();
        constants();
        promisesNothing("Ahead of the calls `makeCollection`, `put`, `delete`, `failures`, `failureAt`, `copy`, "
            + "`move`, `kindOf`, `content`, `resources` the interface says: ---- resources.");
        promisesNothing("Ahead of the calls `members`, `memberAt`, `order` the interface says: ---- members.");
        promisesNothing("Ahead of the calls `lock`, `refresh`, `pass`, `covering`, `mayChange` the interface says: "
            + "---- locks.");
        promisesNothing("Ahead of the calls `keep`, `restore` the interface says: ---- versions.");
    }

    private void calls() {
        of("An object is used for at most 512 calls after it has been made; what later calls answer is free.");
        ShelfServer server = fullServer();
        int calls = 60;
        for (int token = 0; token < 30; token++) {
            server.lock(token % 4, 71, true, false, 1000, 0);
            calls++;
        }
        for (; calls < 509; calls++) {
            server.pass(1);
        }
        it.due("call 510", 1000 - 419, server.refresh(1, 29, 1));
        it.due("call 511", DONE, server.delete(1, 71, 1 << 29));
        it.due("call 512", DONE, server.makeCollection(3, 9, 0));
        ShelfServer other = tree();
        for (int call = 9; call < 512; call++) {
            other.put(0, 3, call, NONE, 0);
        }
        it.due("the last call", 511, other.content(3));
    }

    private void digits() {
        of("Paths are ints of up to 4 digits, each 1 to 9:");
        int asked = 512;
        ShelfServer server = null;
        for (int number = -12000; number <= 112000; number++) {
            if (asked == 512) {
                server = new ShelfServer();
                asked = 0;
            }
            asked++;
            ShelfServer one = server;
            int path = number;
            if (path == 0 || Integer.toString(path).matches("[1-9]{1,4}")) {
                it.inRange("path " + path, () -> one.kindOf(path));
            } else {
                it.badArgument("path " + path, () -> one.kindOf(path));
            }
        }
        for (int path : NO_PATHS) {
            it.badArgument("path " + path, () -> new ShelfServer().covering(path));
        }
    }

    private void top() {
        of("the path 0 is the top, which is a collection and always there;");
        ShelfServer server = new ShelfServer();
        it.due("at first", COLLECTION, server.kindOf(0));
        it.due("a member can be made", DONE, server.put(0, 9, 0, NONE, 0));
        it.due("all members can be deleted", DONE, server.delete(0, 9, 0));
        it.due("still there", COLLECTION, server.kindOf(0));
        badArgument("it can't be deleted", Part::tree, x -> x.delete(0, 0, 0));
        badArgument("it can't be moved", Part::tree, x -> x.move(0, 0, 1, true, 0));
        badArgument("nothing can be moved over it", Part::tree, x -> x.move(0, 1, 0, true, 0));
        it.due("in a full server", COLLECTION, fullServer().kindOf(0));
    }

    private void parents() {
        of("the parent of another path is the path without its last digit.");
        ShelfServer server = new ShelfServer();
        it.due("1 in the top", DONE, server.makeCollection(0, 1, 0));
        it.due("12 in 1", DONE, server.makeCollection(0, 12, 0));
        it.due("123 in 12", DONE, server.makeCollection(0, 123, 0));
        it.due("1239 in 123", DONE, server.makeCollection(0, 1239, 0));
        members(server, 0, 1);
        members(server, 1, 12);
        members(server, 12, 123);
        members(server, 123, 1239);
        members(server, 1239);
        it.due("21 has no parent", MISSING, server.put(0, 21, 0, NONE, 0));
        it.due("139 has no parent", MISSING, server.put(0, 139, 0, NONE, 0));
        it.due("9123 has no parent", MISSING, server.put(0, 9123, 0, NONE, 0));
    }

    private void above() {
        of("A path is above another one if it is its parent, or above that;");
        ShelfServer server = new ShelfServer();
        collections(server, 1, 12, 2);
        exclusiveDeep(server, 0, 12);
        for (int path : new int[] {12, 121, 129, 1211, 1299}) {
            it.due("12 is above, or is, " + path, 1, server.covering(path));
        }
        for (int path : new int[] {0, 1, 2, 11, 13, 21, 112, 212, 1112, 2112, 1121}) {
            it.due("12 is not above " + path, 0, server.covering(path));
        }
        ShelfServer all = new ShelfServer();
        exclusiveDeep(all, 0, 0);
        for (int path : new int[] {0, 1, 9, 12, 99, 999, 1111, 9999}) {
            it.due("the top is above, or is, " + path, 1, all.covering(path));
        }
        ShelfServer one = new ShelfServer();
        collections(one, 1);
        exclusiveDeep(one, 0, 1);
        it.due("1 is above 1999", 1, one.covering(1999));
        it.due("1 is not above 9111", 0, one.covering(9111));
    }

    private void below() {
        of("the other one is below it then.");
        ShelfServer server = new ShelfServer();
        collections(server, 1, 11, 111, 2, 21);
        files(server, 1111, 211, 12);
        it.due("delete 1", DONE, server.delete(0, 1, 0));
        for (int path : new int[] {1, 11, 111, 1111, 12}) {
            it.due("gone from " + path, NONE, server.kindOf(path));
        }
        it.due("2, 21 and 211 are not below 1", 3, server.resources());
    }

    private void mostResources() {
        of("At most 60 resources are there beside the top;");
        it.due("60 are there", 60, fullServer().resources());
        refused("a 61st collection", FULL, Part::fullServer, x -> x.makeCollection(0, 8, 0));
        refused("a 61st file", FULL, Part::fullServer, x -> x.put(0, 8, 0, NONE, 0));
        refused("a 61st by a copy", FULL, Part::fullServer, x -> x.copy(0, 71, 8, false, 0));
        badState("a 61st by a lock", Part::fullServer, x -> x.lock(0, 8, false, false, 1, 0));
        ShelfServer less = fullServer();
        less.delete(0, 72, 0);
        it.due("59 are there", 59, less.resources());
        it.due("the 60th by a copy", DONE, less.copy(0, 71, 8, false, 0));
        less.delete(0, 8, 0);
        it.due("the 60th by a lock", 0, less.lock(0, 8, false, false, 1, 0));
        less.delete(0, 8, 1);
        it.due("the 60th by a put", DONE, less.put(0, 8, 0, NONE, 0));
        less.delete(0, 8, 0);
        it.due("the 60th by makeCollection", DONE, less.makeCollection(0, 8, 0));
        it.due("60 are there again", 60, less.resources());
    }

    private void contents() {
        of("each is a file, with a content, 0 to 999,");
        ShelfServer server = new ShelfServer();
        for (int content : new int[] {0, 1, 998, 999}) {
            it.due("put " + content, DONE, server.put(0, 1, content, NONE, 0));
            it.due("it is there", content, server.content(1));
            it.due("in a file", FILE, server.kindOf(1));
        }
        badArgument("1000", ShelfServer::new, x -> x.put(0, 1, 1000, NONE, 0));
        badArgument("-1", ShelfServer::new, x -> x.put(0, 1, -1, NONE, 0));
    }

    private void orders() {
        of("or a collection, whose members have an order.");
        ShelfServer server = new ShelfServer();
        collections(server, 5);
        files(server, 53, 59, 51, 57);
        members(server, 5, 53, 59, 51, 57);
        files(server, 59);
        members(server, 5, 53, 59, 51, 57);
        it.due("delete one", DONE, server.delete(0, 59, 0));
        members(server, 5, 53, 51, 57);
        it.due("a file has none", 0, server.members(53));
    }

    private void clients() {
        of("Clients are 0 to 3.");
        for (int client = 0; client <= 3; client++) {
            ShelfServer server = new ShelfServer();
            it.due("a file by " + client, DONE, server.put(client, 1, 5, NONE, 0));
            it.due("a lock by " + client, 0, server.lock(client, 1, false, false, 5, 0));
            for (int other = 0; other <= 3; other++) {
                it.due("the token of " + client + " with " + other, Checks.bit(client == other),
                    Checks.bit(server.mayChange(other, 1, 1)));
            }
        }
        for (int client : new int[] {-1, 4, LEAST, MOST}) {
            badArgument("client " + client, Part::tree, x -> Checks.bit(x.mayChange(client, 1, 0)));
        }
    }

    /** Takes more calls than an object is promised for: in 512 calls the time can't come so far. */
    static ShelfServer atTime(int time) {
        ShelfServer server = new ShelfServer();
        for (int left = time; left > 0; left -= 1000) {
            server.pass(Math.min(left, 1000));
        }
        return server;
    }

    private void time() {
        of("Time is in ticks, from 0 on.");
        it.due("1000000 ticks fit", 0, atTime(999000).pass(1000));
        it.badState("no more do", () -> atTime(1000000).pass(1));
    }

    private void locks() {
        of("Locks. A lock is of a client and a path, is shared or exclusive, deep or not,");
        ShelfServer server = tree();
        shared(server, 2, 1);
        it.due("of its path", 1, server.covering(1));
        it.due("not deep", 0, server.covering(11));
        it.due("of its client", 50, server.refresh(2, 0, 50));
        it.badState("of no other client", () -> server.refresh(1, 0, 50));
        it.due("shared", 1, sharedDeep(server, 1, 1));
        it.due("deep", 2, server.covering(11));
        it.badState("exclusive", () -> exclusive(server, 2, 1));
    }

    private void ends() {
        of("and ends at a time (at which it is gone).");
        ShelfServer server = tree();
        server.lock(1, 3, false, false, 5, 0);
        server.pass(4);
        it.due("a tick ahead of its end", 1, server.covering(3));
        it.no("it counts", server.mayChange(0, 3, 0));
        it.due("it ends", 1, server.pass(1));
        it.due("at its end", 0, server.covering(3));
        it.yes("it does not count any more", server.mayChange(0, 3, 0));
        it.badPlace("it can't be refreshed", () -> server.refresh(1, 0, 5));
        it.due("another may be", 1, server.lock(0, 3, false, false, 5, 0));
    }

    private void numbers() {
        of("Its token is its number; locks are numbered from 0, at most 30 in all.");
        ShelfServer server = tree();
        for (int token = 0; token < 30; token++) {
            it.due("lock " + token, token, server.lock(token % 4, 3, false, false, 1, 0));
            it.due("its bit", 1 << token, server.covering(3));
            it.due("it ends", 1, server.pass(1));
        }
        it.badState("a 31st, though all are gone", () -> server.lock(0, 3, false, false, 1, 0));
        it.badState("a 31st at the top", () -> server.lock(0, 0, true, true, 1, 0));
        ShelfServer refused = tree();
        it.badState("one that throws", () -> refused.lock(0, 41, false, false, 1, 0));
        it.due("takes no number", 0, refused.lock(0, 3, false, false, 1, 0));
    }

    private void covers() {
        of("A lock covers its path, and, if it is deep, all paths below it.");
        ShelfServer server = new ShelfServer();
        collections(server, 1, 11);
        exclusive(server, 0, 1);
        exclusiveDeep(server, 1, 11);
        it.due("the path above", 0, server.covering(0));
        it.due("its path", 1, server.covering(1));
        it.due("below, not deep", 0, server.covering(12));
        it.due("its path, deep", 2, server.covering(11));
        it.due("below, deep, where nothing is", 2, server.covering(111));
        it.due("far below, deep", 2, server.covering(1199));
        files(server, 3);
        exclusiveDeep(server, 2, 3);
        it.due("below a file", 4, server.covering(3999));
    }

    private void sets() {
        of("A set of tokens is an int: bit t for the token t.");
        ShelfServer server = tree();
        for (int token = 0; token < 30; token++) {
            shared(server, 2, 3);
        }
        it.due("30 bits", 0x3fffffff, server.covering(3));
        for (int token = 0; token < 30; token++) {
            it.yes("token " + token, server.mayChange(2, 3, 1 << token));
        }
        it.no("the empty set", server.mayChange(2, 3, 0));
        it.no("bit 30 is no lock's", server.mayChange(2, 3, 1 << 30));
        it.yes("all bits", server.mayChange(2, 3, MOST));
        it.badArgument("bit 31 is below 0", () -> Checks.bit(server.mayChange(2, 3, 1 << 31)));
    }

    private void mayChange() {
        of("A client may change a path with some tokens if no lock covers it, or if one of the locks that cover it "
            + "is of the client, and its token is among them.");
        ShelfServer server = tree();
        shared(server, 1, 3);
        shared(server, 2, 3);
        exclusive(server, 1, 12);
        it.yes("no lock", server.mayChange(0, 111, 0));
        it.yes("no lock, tokens of others", server.mayChange(0, 111, MOST));
        it.no("none of the client's", server.mayChange(0, 3, MOST));
        it.no("the client's, without its token", server.mayChange(1, 3, 0));
        it.no("the client's, with another's token", server.mayChange(1, 3, 1 << 1));
        it.no("the client's other lock, which does not cover", server.mayChange(1, 3, 1 << 2));
        it.no("another's token, and that other lock", server.mayChange(1, 3, 1 << 1 | 1 << 2));
        it.yes("one of two", server.mayChange(1, 3, 1));
        it.yes("the other of two", server.mayChange(2, 3, 1 << 1));
        it.yes("among others", server.mayChange(2, 3, MOST));
        server.refresh(1, 0, 0);
        it.no("a token of a lock that is gone", server.mayChange(1, 3, 1));
        server.refresh(2, 1, 0);
        it.yes("no lock any more", server.mayChange(0, 3, 0));
    }

    private void goesWithItsLocks() {
        of("A resource that goes takes the locks of its path with it.");
        ShelfServer deleted = tree();
        exclusiveDeep(deleted, 0, 11);
        shared(deleted, 0, 12);
        shared(deleted, 1, 12);
        exclusive(deleted, 2, 3);
        exclusive(deleted, 1, 1);
        it.due("delete 12", DONE, deleted.delete(1, 12, MOST));
        it.due("both locks of 12", 0, deleted.covering(12));
        it.badPlace("also the one of a client that did not ask", () -> deleted.refresh(0, 1, 9));
        it.due("the lock of the parent stays", 16, deleted.covering(1));
        it.due("others stay", 8, deleted.covering(3));
        it.due("a new file is not locked", DONE, deleted.put(1, 12, 0, NONE, 16));
        it.due("by nothing", 0, deleted.covering(12));
        ShelfServer partly = tree();
        exclusive(partly, 0, 111);
        exclusive(partly, 1, 112);
        it.due("delete 1 in part", PARTLY, partly.delete(0, 1, 1));
        it.due("the lock of what went", 0, partly.covering(111));
        it.due("the lock of what stayed", 2, partly.covering(112));
        ShelfServer over = tree();
        exclusive(over, 0, 21);
        exclusive(over, 0, 111);
        it.due("copy over 2", DONE, over.copy(0, 3, 2, true, MOST));
        it.due("the lock of what was below", 0, over.covering(21));
        it.due("move 11", DONE, over.move(0, 11, 4, false, MOST));
        it.due("the lock of what was moved", 0, over.covering(111));
        it.due("it is not at the new path", 0, over.covering(41));
        it.due("none is left to end", 0, over.pass(1000));
        collectionsGoWithTheirLocks();
    }

    private void collectionsGoWithTheirLocks() {
        ShelfServer server = tree();
        exclusiveDeep(server, 1, 11);
        exclusiveDeep(server, 1, 2);
        it.due("delete 11", DONE, server.delete(1, 11, MOST));
        it.due("its lock", 0, server.covering(11));
        it.due("its lock below it", 0, server.covering(119));
        it.due("copy over 2", DONE, server.copy(1, 1, 2, true, MOST));
        it.due("the lock of 2", 0, server.covering(2));
        it.due("the lock of 2 below it", 0, server.covering(22));
        exclusiveDeep(server, 1, 2);
        it.due("move 2", DONE, server.move(1, 2, 4, false, MOST));
        it.due("its lock at the old path", 0, server.covering(2));
        it.due("its lock at the new path", 0, server.covering(4));
        it.due("no lock is left", 0, server.pass(1000));
    }

    private void makes() {
        of("To make a resource at a path, its parent must be a collection (otherwise MISSING), and the client must "
            + "be able to change its parent and the path; it becomes the last member of its parent.");
        refused("below nothing", MISSING, Part::rich, x -> x.makeCollection(0, 41, 0));
        refused("below a file", MISSING, Part::rich, x -> x.put(0, 31, 0, NONE, 0));
        refused("a copy below a file", MISSING, Part::rich, x -> x.copy(0, 3, 121, false, 0));
        refused("a move below nothing", MISSING, Part::rich, x -> x.move(0, 3, 41, false, 0));
        refused("the parent may not be changed", LOCKED, Part::rich, x -> x.makeCollection(0, 22, MOST));
        refused("the path may not be changed", LOCKED, Part::rich, x -> x.makeCollection(3, 22, MOST));
        refused("the same for a put", LOCKED, Part::rich, x -> x.put(3, 22, 0, NONE, MOST));
        refused("the same for a copy", LOCKED, Part::rich, x -> x.copy(3, 12, 22, false, MOST));
        refused("the same for a move", LOCKED, Part::rich, x -> x.move(3, 12, 22, false, MOST));
        badState("the same for a lock", Part::rich, x -> x.lock(3, 22, true, false, 5, MOST));
        ShelfServer server = rich();
        it.due("both may be changed", DONE, server.makeCollection(2, 29, 1 << 1));
        it.due("a put", DONE, server.put(2, 28, 0, NONE, 1 << 1));
        it.due("a copy", DONE, server.copy(2, 12, 27, false, 1 << 1));
        it.due("a lock", 5, server.lock(2, 26, true, false, 5, 1 << 1));
        it.due("a move", DONE, server.move(2, 12, 25, false, 1 << 1));
        members(server, 2, 21, 29, 28, 27, 26, 25);
    }

    private void constants() {
        of("The constants: `NONE = -1`: There is none.");
        it.due("NONE", -1, ShelfServer.NONE);
        of("`DONE = 0, MISSING = 1, EXISTS = 2, CONDITION = 3, LOCKED = 4, FULL = 5, PARTLY = 6`: How it went.");
        it.due("DONE", 0, ShelfServer.DONE);
        it.due("MISSING", 1, ShelfServer.MISSING);
        it.due("EXISTS", 2, ShelfServer.EXISTS);
        it.due("CONDITION", 3, ShelfServer.CONDITION);
        it.due("LOCKED", 4, ShelfServer.LOCKED);
        it.due("FULL", 5, ShelfServer.FULL);
        it.due("PARTLY", 6, ShelfServer.PARTLY);
        of("`FILE = 1, COLLECTION = 2`: Kinds of resources.");
        it.due("FILE", 1, ShelfServer.FILE);
        it.due("COLLECTION", 2, ShelfServer.COLLECTION);
    }
}
