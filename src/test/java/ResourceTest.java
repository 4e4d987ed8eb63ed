/** Promises 1 to 3 and 9 to 11: a new object, makeCollection, put, kindOf, content, resources. */
final class ResourceTest {
    private static final int NONE = ShelfServer.NONE;
    private static final Checks CHECKS = new Checks("ResourceTest");

    public static void main(String[] args) {
        newObject();
        collections();
        collectionsAreLocked();
        collectionsInARow();
        files();
        conditions();
        filesAreLocked();
        full();
        onePlaceIsEnough();
        wrongArguments();
        CHECKS.finish();
    }

    private static void newObject() {
        ShelfServer server = new ShelfServer();
        CHECKS.due("resources at first", 0, server.resources());
        CHECKS.due("the top is a collection", ShelfServer.COLLECTION, server.kindOf(0));
        CHECKS.due("the top has no content", NONE, server.content(0));
        CHECKS.due("the top has no members", 0, server.members(0));
        CHECKS.due("the top has no locks", 0, server.covering(0));
        CHECKS.due("nothing failed", 0, server.failures());
        CHECKS.due("nothing is at 1", NONE, server.kindOf(1));
        CHECKS.due("nothing is at 9999", NONE, server.kindOf(9999));
        CHECKS.yes("anybody may change the top", server.mayChange(3, 0, 0));
        ShelfServer other = new ShelfServer();
        other.put(0, 1, 1, NONE, 0);
        CHECKS.due("objects have nothing to do with each other", 0, server.resources());
    }

    private static void collections() {
        ShelfServer server = new ShelfServer();
        CHECKS.due("no parent", ShelfServer.MISSING, server.makeCollection(0, 11, 0));
        CHECKS.due("make 1", ShelfServer.DONE, server.makeCollection(0, 1, 0));
        CHECKS.due("kind of 1", ShelfServer.COLLECTION, server.kindOf(1));
        CHECKS.due("content of 1", NONE, server.content(1));
        CHECKS.due("make 1 again", ShelfServer.EXISTS, server.makeCollection(1, 1, 0));
        CHECKS.due("make 11", ShelfServer.DONE, server.makeCollection(3, 11, 0));
        CHECKS.due("make 119", ShelfServer.DONE, server.makeCollection(0, 119, Integer.MAX_VALUE));
        CHECKS.due("make 1199", ShelfServer.DONE, server.makeCollection(0, 1199, 0));
        CHECKS.due("resources", 4, server.resources());
        server.put(0, 2, 7, NONE, 0);
        CHECKS.due("below a file", ShelfServer.MISSING, server.makeCollection(0, 21, 0));
        CHECKS.due("at a file", ShelfServer.EXISTS, server.makeCollection(0, 2, 0));
        CHECKS.due("the file is still there", 7, server.content(2));
        CHECKS.due("resources with the file", 5, server.resources());
    }

    private static void collectionsAreLocked() {
        ShelfServer server = new ShelfServer();
        server.makeCollection(0, 1, 0);
        server.lock(1, 1, false, false, 10, 0);
        CHECKS.due("parent locked", ShelfServer.LOCKED, server.makeCollection(0, 11, 1));
        CHECKS.due("no token", ShelfServer.LOCKED, server.makeCollection(1, 11, 2));
        CHECKS.due("nothing was made", 1, server.resources());
        CHECKS.due("with the token", ShelfServer.DONE, server.makeCollection(1, 11, 1));
        CHECKS.due("EXISTS ahead of LOCKED", ShelfServer.EXISTS, server.makeCollection(0, 11, 0));
        CHECKS.due("MISSING ahead of LOCKED", ShelfServer.MISSING, server.makeCollection(0, 121, 0));
        ShelfServer deep = new ShelfServer();
        deep.makeCollection(0, 1, 0);
        deep.lock(0, 1, true, true, 10, 0);
        deep.lock(1, 1, true, false, 10, 0);
        CHECKS.due("the parent may be changed, the path not", ShelfServer.LOCKED, deep.makeCollection(1, 11, 2));
        CHECKS.due("both may be changed", ShelfServer.DONE, deep.makeCollection(0, 11, 1));
    }

    private static void collectionsInARow() {
        ShelfServer server = new ShelfServer();
        server.makeCollection(0, 5, 0);
        server.put(0, 2, 0, NONE, 0);
        server.makeCollection(0, 9, 0);
        CHECKS.due("first", 5, server.memberAt(0, 0));
        CHECKS.due("second", 2, server.memberAt(0, 1));
        CHECKS.due("third", 9, server.memberAt(0, 2));
        server.put(0, 5, 1, NONE, 0);
        server.put(0, 2, 1, NONE, 0);
        CHECKS.due("writing leaves the order", 2, server.memberAt(0, 1));
    }

    private static void files() {
        ShelfServer server = new ShelfServer();
        CHECKS.due("put 1", ShelfServer.DONE, server.put(0, 1, 999, NONE, 0));
        CHECKS.due("kind", ShelfServer.FILE, server.kindOf(1));
        CHECKS.due("content", 999, server.content(1));
        CHECKS.due("put again", ShelfServer.DONE, server.put(2, 1, 0, NONE, 0));
        CHECKS.due("content 0", 0, server.content(1));
        CHECKS.due("one file", 1, server.resources());
        CHECKS.due("below a file", ShelfServer.MISSING, server.put(0, 11, 1, NONE, 0));
        CHECKS.due("below nothing", ShelfServer.MISSING, server.put(0, 21, 1, NONE, 0));
        CHECKS.due("content of nothing", NONE, server.content(21));
        server.makeCollection(0, 3, 0);
        CHECKS.due("at a collection", ShelfServer.EXISTS, server.put(0, 3, 1, NONE, 0));
        CHECKS.due("still a collection", ShelfServer.COLLECTION, server.kindOf(3));
    }

    private static void conditions() {
        ShelfServer server = new ShelfServer();
        CHECKS.due("a condition on nothing", ShelfServer.CONDITION, server.put(0, 1, 5, 0, 0));
        CHECKS.due("nothing made", 0, server.resources());
        server.put(0, 1, 5, NONE, 0);
        CHECKS.due("another content", ShelfServer.CONDITION, server.put(0, 1, 6, 4, 0));
        CHECKS.due("not written", 5, server.content(1));
        CHECKS.due("the same content", ShelfServer.DONE, server.put(0, 1, 6, 5, 0));
        CHECKS.due("written", 6, server.content(1));
        server.put(0, 1, 0, 6, 0);
        CHECKS.due("0 is a condition too", ShelfServer.DONE, server.put(0, 1, 8, 0, 0));
        server.makeCollection(0, 2, 0);
        CHECKS.due("EXISTS ahead of CONDITION", ShelfServer.EXISTS, server.put(0, 2, 1, 1, 0));
        CHECKS.due("MISSING ahead of CONDITION", ShelfServer.MISSING, server.put(0, 31, 1, 1, 0));
        server.lock(1, 1, false, false, 10, 0);
        CHECKS.due("CONDITION ahead of LOCKED", ShelfServer.CONDITION, server.put(0, 1, 1, 1, 0));
        CHECKS.due("LOCKED if the condition holds", ShelfServer.LOCKED, server.put(0, 1, 1, 8, 0));
    }

    private static void filesAreLocked() {
        ShelfServer server = new ShelfServer();
        server.makeCollection(0, 1, 0);
        server.put(0, 11, 5, NONE, 0);
        server.lock(1, 1, false, false, 10, 0);
        CHECKS.due("an old file does not ask the parent", ShelfServer.DONE, server.put(0, 11, 6, NONE, 0));
        CHECKS.due("a new one does", ShelfServer.LOCKED, server.put(0, 12, 6, NONE, 0));
        CHECKS.due("a new one with the token", ShelfServer.DONE, server.put(1, 12, 6, NONE, 1));
        server.lock(2, 11, false, false, 10, 0);
        CHECKS.due("the file is locked", ShelfServer.LOCKED, server.put(1, 11, 7, NONE, 3));
        CHECKS.due("not written", 6, server.content(11));
        CHECKS.due("with its token", ShelfServer.DONE, server.put(2, 11, 7, NONE, 2));
        ShelfServer deep = new ShelfServer();
        deep.makeCollection(0, 1, 0);
        deep.lock(0, 1, true, true, 10, 0);
        deep.lock(1, 1, true, false, 10, 0);
        CHECKS.due("the parent may be changed, the path not", ShelfServer.LOCKED, deep.put(1, 11, 0, NONE, 2));
    }

    private static void full() {
        ShelfServer server = fullServer();
        CHECKS.due("resources", 60, server.resources());
        CHECKS.due("one collection more", ShelfServer.FULL, server.makeCollection(0, 73, 0));
        CHECKS.due("one file more", ShelfServer.FULL, server.put(0, 73, 0, NONE, 0));
        CHECKS.due("an old file", ShelfServer.DONE, server.put(0, 72, 4, NONE, 0));
        CHECKS.due("MISSING ahead of FULL", ShelfServer.MISSING, server.put(0, 721, 0, NONE, 0));
        CHECKS.due("EXISTS ahead of FULL", ShelfServer.EXISTS, server.makeCollection(0, 72, 0));
        CHECKS.due("CONDITION ahead of FULL", ShelfServer.CONDITION, server.put(0, 73, 0, 0, 0));
        CHECKS.due("still so many", 60, server.resources());
        server.lock(1, 7, false, false, 9, 0);
        CHECKS.due("LOCKED ahead of FULL", ShelfServer.LOCKED, server.put(0, 73, 0, NONE, 0));
        CHECKS.due("LOCKED ahead of FULL again", ShelfServer.LOCKED, server.makeCollection(0, 73, 0));
    }

    private static void onePlaceIsEnough() {
        ShelfServer server = fullServer();
        server.delete(0, 72, 0);
        CHECKS.due("one place is free", ShelfServer.DONE, server.makeCollection(0, 73, 0));
        CHECKS.due("no more", ShelfServer.FULL, server.makeCollection(0, 74, 0));
        CHECKS.due("all of them", 60, server.resources());
        for (int i = 1; i <= 5; i++) {
            CHECKS.due("the others are there", ShelfServer.FILE, server.kindOf(i * 10 + 9));
        }
    }

    /** 60 resources: 1 to 5 with nine files each, 6 with six, 7 with two. */
    static ShelfServer fullServer() {
        ShelfServer server = new ShelfServer();
        for (int upper = 1; upper <= 5; upper++) {
            server.makeCollection(0, upper, 0);
            for (int digit = 1; digit <= 9; digit++) {
                server.put(0, upper * 10 + digit, digit, NONE, 0);
            }
        }
        server.makeCollection(0, 6, 0);
        for (int digit = 1; digit <= 6; digit++) {
            server.put(0, 60 + digit, digit, NONE, 0);
        }
        server.makeCollection(0, 7, 0);
        server.put(0, 71, 1, NONE, 0);
        server.put(0, 72, 2, NONE, 0);
        return server;
    }

    private static void wrongArguments() {
        ShelfServer server = new ShelfServer();
        int[] noPaths = {-1, -11, 10, 101, 1011, 1110, 1000, 9990, 10000, 11111, Integer.MAX_VALUE, Integer.MIN_VALUE};
        for (int path : noPaths) {
            CHECKS.badArgument("makeCollection " + path, () -> server.makeCollection(0, path, 0));
            CHECKS.badArgument("put " + path, () -> server.put(0, path, 0, NONE, 0));
            CHECKS.badArgument("kindOf " + path, () -> server.kindOf(path));
            CHECKS.badArgument("content " + path, () -> server.content(path));
        }
        CHECKS.badArgument("makeCollection the top", () -> server.makeCollection(0, 0, 0));
        CHECKS.badArgument("put the top", () -> server.put(0, 0, 0, NONE, 0));
        for (int client : new int[] {-1, 4}) {
            CHECKS.badArgument("makeCollection by " + client, () -> server.makeCollection(client, 1, 0));
            CHECKS.badArgument("put by " + client, () -> server.put(client, 1, 0, NONE, 0));
        }
        CHECKS.badArgument("makeCollection, tokens", () -> server.makeCollection(0, 1, -1));
        CHECKS.badArgument("put, tokens", () -> server.put(0, 1, 0, NONE, Integer.MIN_VALUE));
        CHECKS.badArgument("put, content below", () -> server.put(0, 1, -1, NONE, 0));
        CHECKS.badArgument("put, content above", () -> server.put(0, 1, 1000, NONE, 0));
        CHECKS.badArgument("put, expected below", () -> server.put(0, 1, 0, -2, 0));
        CHECKS.badArgument("put, expected above", () -> server.put(0, 1, 0, 1000, 0));
        CHECKS.badArgument("an argument ahead of MISSING", () -> server.put(0, 11, 1000, NONE, 0));
        CHECKS.due("nothing was made", 0, server.resources());
        CHECKS.due("client 3 is one", ShelfServer.DONE, server.makeCollection(3, 9, 0));
    }
}
