/** Promises 7 and 8: copy and move. */
final class CopyMoveTest {
    private static final int NONE = ShelfServer.NONE;
    private static final Checks CHECKS = new Checks("CopyMoveTest");

    public static void main(String[] args) {
        copyOfATree();
        copyOverSomething();
        copyIsMissing();
        copyIsLocked();
        copyIsFull();
        copyTakesNoVersionsAndNoLocks();
        moveOfATree();
        moveOverSomething();
        moveIsMissing();
        moveIsLocked();
        moveIsNeverFull();
        moveTakesVersions();
        moveInOneCollection();
        lastPathOfAll();
        belowWasFirst();
        rowOfExceptions();
        wrongTargets();
        CHECKS.finish();
    }

    /** 1 with 12 = 5, 11 with 113 = 6 and 111 = 7 in that order; 2 with 21 = 8; 3 = 9. */
    private static ShelfServer tree() {
        ShelfServer server = new ShelfServer();
        server.makeCollection(0, 1, 0);
        server.put(0, 12, 5, NONE, 0);
        server.makeCollection(0, 11, 0);
        server.put(0, 113, 6, NONE, 0);
        server.put(0, 111, 7, NONE, 0);
        server.makeCollection(0, 2, 0);
        server.put(0, 21, 8, NONE, 0);
        server.put(0, 3, 9, NONE, 0);
        return server;
    }

    private static void treeAt(ShelfServer server, int path) {
        CHECKS.due("kind at " + path, ShelfServer.COLLECTION, server.kindOf(path));
        CHECKS.due("members at " + path, 2, server.members(path));
        CHECKS.due("first at " + path, path * 10 + 2, server.memberAt(path, 0));
        CHECKS.due("second at " + path, path * 10 + 1, server.memberAt(path, 1));
        CHECKS.due("first below at " + path, path * 100 + 13, server.memberAt(path * 10 + 1, 0));
        CHECKS.due("second below at " + path, path * 100 + 11, server.memberAt(path * 10 + 1, 1));
        CHECKS.due("content of the file at " + path, 5, server.content(path * 10 + 2));
        CHECKS.due("content of the first below at " + path, 6, server.content(path * 100 + 13));
        CHECKS.due("content of the second below at " + path, 7, server.content(path * 100 + 11));
    }

    private static void copyOfATree() {
        ShelfServer server = tree();
        CHECKS.due("copy", ShelfServer.DONE, server.copy(0, 1, 22, false, 0));
        treeAt(server, 22);
        treeAt(server, 1);
        CHECKS.due("it is the last member", 22, server.memberAt(2, 1));
        CHECKS.due("resources", 13, server.resources());
        server.put(0, 2213, 66, NONE, 0);
        CHECKS.due("the copy is one of its own", 6, server.content(113));
        CHECKS.due("a file", ShelfServer.DONE, server.copy(3, 3, 9, true, 0));
        CHECKS.due("its content", 9, server.content(9));
        CHECKS.due("to the same parent", 9, server.memberAt(0, 3));
        CHECKS.due("up from below", ShelfServer.DONE, server.copy(0, 11, 8, false, 0));
        CHECKS.due("its files", 6, server.content(83));
    }

    private static void copyOverSomething() {
        ShelfServer server = tree();
        CHECKS.due("not over", ShelfServer.EXISTS, server.copy(0, 3, 2, false, 0));
        CHECKS.due("21 is there", 8, server.content(21));
        CHECKS.due("over a collection", ShelfServer.DONE, server.copy(0, 3, 2, true, 0));
        CHECKS.due("a file now", 9, server.content(2));
        CHECKS.due("21 is gone", NONE, server.kindOf(21));
        CHECKS.due("it is the last member now", 2, server.memberAt(0, 2));
        CHECKS.due("over a file", ShelfServer.DONE, server.copy(0, 1, 2, true, 0));
        treeAt(server, 2);
        CHECKS.due("over a tree", ShelfServer.DONE, server.copy(0, 11, 2, true, 0));
        CHECKS.due("only what was copied", 2, server.members(2));
        CHECKS.due("resources", 9, server.resources());
    }

    private static void copyIsMissing() {
        ShelfServer server = tree();
        CHECKS.due("nothing at from", ShelfServer.MISSING, server.copy(0, 4, 5, true, 0));
        CHECKS.due("no parent at to", ShelfServer.MISSING, server.copy(0, 1, 41, true, 0));
        CHECKS.due("a file as parent at to", ShelfServer.MISSING, server.copy(0, 1, 31, true, 0));
        server.makeCollection(0, 22, 0);
        CHECKS.due("five digits", ShelfServer.MISSING, server.copy(0, 1, 221, true, 0));
        CHECKS.due("nothing made", NONE, server.kindOf(221));
        CHECKS.due("four digits", ShelfServer.DONE, server.copy(0, 11, 221, true, 0));
        CHECKS.due("they are there", 7, server.content(2211));
        CHECKS.due("MISSING ahead of EXISTS", ShelfServer.MISSING, server.copy(0, 1, 2211, false, 0));
        server.lock(1, 221, false, true, 9, 0);
        CHECKS.due("MISSING ahead of LOCKED", ShelfServer.MISSING, server.copy(0, 4, 2211, true, 0));
        CHECKS.due("EXISTS ahead of LOCKED", ShelfServer.EXISTS, server.copy(0, 3, 2211, false, 0));
    }

    private static void copyIsLocked() {
        ShelfServer server = tree();
        server.lock(1, 21, false, false, 9, 0);
        CHECKS.due("something below to", ShelfServer.LOCKED, server.copy(0, 3, 2, true, 1));
        CHECKS.due("to itself", ShelfServer.LOCKED, server.copy(0, 3, 21, true, 0));
        CHECKS.due("nothing changed", 8, server.content(21));
        CHECKS.due("beside it", ShelfServer.DONE, server.copy(0, 3, 22, false, 0));
        CHECKS.due("from may be locked", ShelfServer.DONE, server.copy(0, 21, 23, false, 0));
        CHECKS.due("with the token", ShelfServer.DONE, server.copy(1, 3, 2, true, 1));
        CHECKS.due("the lock went", 0, server.covering(21));
        server.lock(2, 0, false, false, 9, 0);
        CHECKS.due("the parent of to", ShelfServer.LOCKED, server.copy(0, 3, 4, false, 0));
        CHECKS.due("the parent of to, over something", ShelfServer.LOCKED, server.copy(0, 3, 2, true, 0));
        CHECKS.due("with its token", ShelfServer.DONE, server.copy(2, 3, 4, false, 2));
        copyToALockedName();
    }

    private static void copyToALockedName() {
        ShelfServer server = tree();
        server.lock(0, 2, true, true, 9, 0);
        server.lock(1, 2, true, false, 9, 0);
        CHECKS.due("the parent may be changed, the path not", ShelfServer.LOCKED, server.copy(1, 3, 22, false, 2));
        CHECKS.due("both", ShelfServer.DONE, server.copy(0, 3, 22, false, 1));
    }

    private static void copyIsFull() {
        ShelfServer server = ResourceTest.fullServer();
        CHECKS.due("no place", ShelfServer.FULL, server.copy(0, 11, 73, false, 0));
        CHECKS.due("in the place of another", ShelfServer.DONE, server.copy(0, 11, 72, true, 0));
        CHECKS.due("a tree in the place of a tree", ShelfServer.DONE, server.copy(0, 1, 2, true, 0));
        CHECKS.due("as many as ahead", 60, server.resources());
        CHECKS.due("a tree in the place of a smaller one", ShelfServer.FULL, server.copy(0, 1, 6, true, 0));
        CHECKS.due("all there", 6, server.members(6));
        server.delete(0, 5, 0);
        CHECKS.due("ten places for ten", ShelfServer.DONE, server.copy(0, 1, 5, false, 0));
        server.delete(0, 71, 0);
        server.delete(0, 5, 0);
        server.put(0, 73, 0, NONE, 0);
        server.put(0, 74, 0, NONE, 0);
        CHECKS.due("nine places for ten", ShelfServer.FULL, server.copy(0, 1, 5, false, 0));
        CHECKS.due("nothing made", 51, server.resources());
        server.lock(1, 0, false, false, 9, 0);
        CHECKS.due("LOCKED ahead of FULL", ShelfServer.LOCKED, server.copy(0, 1, 5, false, 0));
    }

    private static void copyTakesNoVersionsAndNoLocks() {
        ShelfServer server = tree();
        server.keep(3);
        server.lock(1, 3, false, false, 9, 0);
        CHECKS.due("copy", ShelfServer.DONE, server.copy(0, 3, 4, false, 0));
        CHECKS.due("no versions", ShelfServer.MISSING, server.restore(0, 4, 0, 0));
        CHECKS.due("no locks", 0, server.covering(4));
        CHECKS.due("from has its lock", 1, server.covering(3));
        CHECKS.due("from has its version", ShelfServer.DONE, server.restore(1, 3, 0, 1));
        server.put(0, 5, 1, NONE, 0);
        server.keep(5);
        CHECKS.due("copy over it", ShelfServer.DONE, server.copy(0, 3, 5, true, 0));
        CHECKS.due("its versions are gone", 0, server.keep(5));
    }

    private static void moveOfATree() {
        ShelfServer server = tree();
        CHECKS.due("move", ShelfServer.DONE, server.move(0, 1, 22, false, 0));
        treeAt(server, 22);
        CHECKS.due("from is gone", NONE, server.kindOf(1));
        CHECKS.due("all of it", NONE, server.kindOf(113));
        CHECKS.due("resources", 8, server.resources());
        CHECKS.due("the last member", 22, server.memberAt(2, 1));
        CHECKS.due("members of the top", 2, server.members(0));
        CHECKS.due("up again", ShelfServer.DONE, server.move(0, 22, 9, false, 0));
        treeAt(server, 9);
    }

    private static void moveOverSomething() {
        ShelfServer server = tree();
        CHECKS.due("not over", ShelfServer.EXISTS, server.move(0, 1, 2, false, 0));
        CHECKS.due("over", ShelfServer.DONE, server.move(0, 1, 2, true, 0));
        treeAt(server, 2);
        CHECKS.due("resources", 6, server.resources());
        CHECKS.due("3 is first now", 3, server.memberAt(0, 0));
        CHECKS.due("2 is last now", 2, server.memberAt(0, 1));
        CHECKS.due("a file over a tree", ShelfServer.DONE, server.move(0, 3, 2, true, 0));
        CHECKS.due("alone", 1, server.resources());
        CHECKS.due("its content", 9, server.content(2));
    }

    private static void moveIsMissing() {
        ShelfServer server = tree();
        CHECKS.due("nothing at from", ShelfServer.MISSING, server.move(0, 4, 5, true, 0));
        CHECKS.due("no parent at to", ShelfServer.MISSING, server.move(0, 1, 41, true, 0));
        CHECKS.due("a file as parent", ShelfServer.MISSING, server.move(0, 1, 31, true, 0));
        server.makeCollection(0, 22, 0);
        CHECKS.due("five digits", ShelfServer.MISSING, server.move(0, 1, 221, false, 0));
        treeAt(server, 1);
        CHECKS.due("four digits", ShelfServer.DONE, server.move(0, 11, 221, false, 0));
        CHECKS.due("they are there", 6, server.content(2213));
    }

    private static void moveIsLocked() {
        ShelfServer server = tree();
        server.lock(1, 113, false, false, 9, 0);
        CHECKS.due("something below from", ShelfServer.LOCKED, server.move(0, 1, 22, false, 1));
        CHECKS.due("from itself", ShelfServer.LOCKED, server.move(0, 113, 22, false, 0));
        treeAt(server, 1);
        CHECKS.due("over it", ShelfServer.LOCKED, server.move(0, 2, 11, true, 0));
        CHECKS.due("with the token", ShelfServer.DONE, server.move(1, 1, 22, false, 1));
        CHECKS.due("the lock went", 0, server.covering(113));
        CHECKS.due("it did not go along", 0, server.covering(2213));
        CHECKS.badPlace("it is no more", () -> server.refresh(1, 0, 5));
        server.lock(2, 22, false, false, 9, 0);
        CHECKS.due("the parent of from", ShelfServer.LOCKED, server.move(0, 222, 4, false, 0));
        CHECKS.due("the parent of to", ShelfServer.LOCKED, server.move(0, 3, 223, false, 0));
        CHECKS.due("the parent of from with its token", ShelfServer.DONE, server.move(2, 222, 4, false, 2));
        CHECKS.due("the lock of the parent is there", 2, server.covering(22));
    }

    private static void moveIsNeverFull() {
        ShelfServer server = ResourceTest.fullServer();
        CHECKS.due("a file", ShelfServer.DONE, server.move(0, 71, 73, false, 0));
        CHECKS.due("a tree", ShelfServer.DONE, server.move(0, 1, 9, false, 0));
        CHECKS.due("all there", 60, server.resources());
        CHECKS.due("all members", 9, server.members(9));
        CHECKS.due("over one", ShelfServer.DONE, server.move(0, 9, 72, true, 0));
        CHECKS.due("one less", 59, server.resources());
    }

    private static void moveTakesVersions() {
        ShelfServer server = tree();
        server.keep(113);
        server.put(0, 113, 44, NONE, 0);
        server.keep(113);
        server.put(0, 2, 1, NONE, 0);
        CHECKS.due("move", ShelfServer.DONE, server.move(0, 1, 4, false, 0));
        CHECKS.due("the old version", ShelfServer.DONE, server.restore(0, 413, 0, 0));
        CHECKS.due("its content", 6, server.content(413));
        CHECKS.due("the next number", 2, server.keep(413));
        server.makeCollection(0, 1, 0);
        server.makeCollection(0, 11, 0);
        server.put(0, 113, 1, NONE, 0);
        CHECKS.due("none are left behind", 0, server.keep(113));
        server.keep(3);
        server.keep(3);
        CHECKS.due("move over a file with versions", ShelfServer.DONE, server.move(0, 413, 3, true, 0));
        CHECKS.due("the versions are those of from", 3, server.keep(3));
    }

    private static void moveInOneCollection() {
        ShelfServer server = tree();
        CHECKS.due("move", ShelfServer.DONE, server.move(0, 1, 4, false, 0));
        CHECKS.due("2 is first", 2, server.memberAt(0, 0));
        CHECKS.due("4 is last", 4, server.memberAt(0, 2));
        treeAt(server, 4);
        server.order(0, 4, 0, 0);
        CHECKS.due("move what was ordered", ShelfServer.DONE, server.move(0, 4, 22, false, 0));
        treeAt(server, 22);
    }

    private static void lastPathOfAll() {
        ShelfServer server = new ShelfServer();
        server.makeCollection(0, 9, 0);
        server.makeCollection(0, 99, 0);
        server.makeCollection(0, 1, 0);
        server.put(0, 19, 4, NONE, 0);
        CHECKS.due("copy up to 9999", ShelfServer.DONE, server.copy(0, 1, 999, false, 0));
        CHECKS.due("9999 is there", 4, server.content(9999));
        server.delete(0, 999, 0);
        CHECKS.due("move up to 9999", ShelfServer.DONE, server.move(0, 1, 999, false, 0));
        CHECKS.due("9999 is there again", 4, server.content(9999));
    }

    /** 2 is taken out of the order and put back, so that 21 has stood there longer. */
    private static ShelfServer belowFirst() {
        ShelfServer server = new ShelfServer();
        server.makeCollection(0, 2, 0);
        server.put(0, 21, 8, NONE, 0);
        server.order(0, 2, 0, 0);
        server.put(0, 3, 9, NONE, 0);
        return server;
    }

    private static void belowWasFirst() {
        ShelfServer server = belowFirst();
        server.makeCollection(0, 4, 0);
        server.makeCollection(0, 41, 0);
        server.makeCollection(0, 411, 0);
        CHECKS.due("21 goes with 2", ShelfServer.DONE, server.copy(0, 2, 411, true, 0));
        CHECKS.due("as a member", 8, server.content(4111));
        CHECKS.due("21 would be too long", ShelfServer.MISSING, server.copy(0, 2, 4111, true, 0));
        server.lock(1, 21, false, false, 9, 0);
        CHECKS.due("21 locks 2 as a target", ShelfServer.LOCKED, server.copy(0, 3, 2, true, 0));
        CHECKS.due("21 locks 2 as a source", ShelfServer.LOCKED, server.move(0, 2, 5, true, 0));
        CHECKS.due("21 fails to go", ShelfServer.PARTLY, server.delete(0, 2, 0));
        CHECKS.due("it is the only one", 1, server.failures());
        CHECKS.due("2 with 21 goes", ShelfServer.DONE, server.move(1, 2, 5, true, 1));
        CHECKS.due("its lock is gone", 0, server.covering(21));
        ShelfServer other = belowFirst();
        other.lock(1, 21, false, false, 9, 0);
        CHECKS.due("2 is deleted", ShelfServer.DONE, other.delete(1, 2, 1));
        CHECKS.due("the lock of 21 too", 0, other.covering(21));
        CHECKS.badPlace("it can't be refreshed", () -> other.refresh(1, 0, 5));
    }

    private static void rowOfExceptions() {
        ShelfServer server = tree();
        CHECKS.badArgument("copy, client", () -> server.copy(4, 1, 4, false, 0));
        CHECKS.badArgument("copy, client below 0", () -> server.copy(-1, 1, 4, false, 0));
        CHECKS.badArgument("copy from the top", () -> server.copy(0, 0, 4, false, 0));
        CHECKS.badArgument("copy to the top", () -> server.copy(0, 1, 0, true, 0));
        CHECKS.badArgument("copy from no path", () -> server.copy(0, 10, 4, false, 0));
        CHECKS.badArgument("copy to no path", () -> server.copy(0, 1, 40, false, 0));
        CHECKS.badArgument("copy, tokens", () -> server.copy(0, 1, 4, false, -1));
        CHECKS.badArgument("move, client", () -> server.move(4, 1, 4, false, 0));
        CHECKS.badArgument("move, client below 0", () -> server.move(-1, 1, 4, false, 0));
        CHECKS.badArgument("move from the top", () -> server.move(0, 0, 4, false, 0));
        CHECKS.badArgument("move to the top", () -> server.move(0, 1, 0, true, 0));
        CHECKS.badArgument("move from no path", () -> server.move(0, -5, 4, false, 0));
        CHECKS.badArgument("move to no path", () -> server.move(0, 1, 44444, false, 0));
        CHECKS.badArgument("move, tokens", () -> server.move(0, 1, 4, false, Integer.MIN_VALUE));
        CHECKS.due("nothing changed", 8, server.resources());
    }

    private static void wrongTargets() {
        ShelfServer server = tree();
        int[][] pairs = {{1, 1}, {1, 14}, {11, 1}, {113, 1}, {1, 1499}, {7, 71}, {7777, 7}, {7777, 7777}};
        for (int[] pair : pairs) {
            CHECKS.badArgument("copy " + pair[0] + " to " + pair[1],
                () -> server.copy(0, pair[0], pair[1], true, 0));
            CHECKS.badArgument("move " + pair[0] + " to " + pair[1],
                () -> server.move(0, pair[0], pair[1], true, 0));
        }
        CHECKS.due("nothing changed", 8, server.resources());
        CHECKS.due("beside each other", ShelfServer.DONE, server.copy(0, 11, 13, true, 0));
        CHECKS.due("digits alike, not above", ShelfServer.EXISTS, server.copy(0, 12, 21, false, 0));
    }
}
