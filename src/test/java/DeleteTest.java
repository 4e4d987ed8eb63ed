/** Promises 4 to 6: delete, failures, failureAt. */
final class DeleteTest {
    private static final int NONE = ShelfServer.NONE;
    private static final Checks CHECKS = new Checks("DeleteTest");

    public static void main(String[] args) {
        whole();
        missing();
        lockedPathOrParent();
        failuresStay();
        failuresAreSorted();
        stayingDoesNotHangOnTheParent();
        deepLocks();
        askedAheadOfTheCall();
        failuresOfTheLastDelete();
        locksGo();
        newAtOldPath();
        partlyOfAFullServer();
        wrongArguments();
        CHECKS.finish();
    }

    /** 1 with 11 (111, 112), 12 (121), 13; and 2. */
    private static ShelfServer tree() {
        ShelfServer server = new ShelfServer();
        server.makeCollection(0, 1, 0);
        server.makeCollection(0, 11, 0);
        server.makeCollection(0, 12, 0);
        server.put(0, 13, 4, NONE, 0);
        server.put(0, 111, 1, NONE, 0);
        server.put(0, 112, 2, NONE, 0);
        server.put(0, 121, 3, NONE, 0);
        server.put(0, 2, 5, NONE, 0);
        return server;
    }

    private static void whole() {
        ShelfServer server = tree();
        CHECKS.due("a file", ShelfServer.DONE, server.delete(0, 13, 0));
        CHECKS.due("it is gone", NONE, server.kindOf(13));
        CHECKS.due("the others are there", 7, server.resources());
        CHECKS.due("a tree", ShelfServer.DONE, server.delete(3, 1, 0));
        CHECKS.due("2 is there", 1, server.resources());
        CHECKS.due("2 is as it was", 5, server.content(2));
        CHECKS.due("121 is gone", NONE, server.kindOf(121));
        CHECKS.due("no failures", 0, server.failures());
    }

    private static void missing() {
        ShelfServer server = tree();
        CHECKS.due("nothing there", ShelfServer.MISSING, server.delete(0, 3, 0));
        CHECKS.due("nothing there, below a file", ShelfServer.MISSING, server.delete(0, 21, 0));
        server.lock(1, 1, false, false, 9, 0);
        CHECKS.due("MISSING ahead of LOCKED", ShelfServer.MISSING, server.delete(0, 14, 0));
        CHECKS.due("all there", 8, server.resources());
    }

    private static void lockedPathOrParent() {
        ShelfServer server = tree();
        server.lock(1, 11, false, false, 9, 0);
        CHECKS.due("the path", ShelfServer.LOCKED, server.delete(0, 11, 1));
        CHECKS.due("the parent", ShelfServer.LOCKED, server.delete(0, 111, 0));
        CHECKS.due("the path without its token", ShelfServer.LOCKED, server.delete(1, 11, 0));
        CHECKS.due("LOCKED counts no failures", 0, server.failures());
        CHECKS.due("all there", 8, server.resources());
        CHECKS.due("the parent with its token", ShelfServer.DONE, server.delete(1, 111, 1));
        CHECKS.due("the path with its token", ShelfServer.DONE, server.delete(1, 11, 1));
        CHECKS.due("the rest", 5, server.resources());
        server.lock(2, 0, false, false, 9, 0);
        CHECKS.due("the top is the parent", ShelfServer.LOCKED, server.delete(0, 2, 0));
        CHECKS.due("a member's member", ShelfServer.DONE, server.delete(0, 121, 0));
    }

    private static void failuresStay() {
        ShelfServer server = tree();
        server.lock(1, 112, false, false, 9, 0);
        CHECKS.due("partly", ShelfServer.PARTLY, server.delete(0, 1, 0));
        CHECKS.due("one failure", 1, server.failures());
        CHECKS.due("which", 112, server.failureAt(0));
        CHECKS.due("112 is there", 2, server.content(112));
        CHECKS.due("11 above it", ShelfServer.COLLECTION, server.kindOf(11));
        CHECKS.due("1 above it", ShelfServer.COLLECTION, server.kindOf(1));
        CHECKS.due("2 beside it", ShelfServer.FILE, server.kindOf(2));
        CHECKS.due("no others", 4, server.resources());
        CHECKS.due("the lock is there", 1, server.covering(112));
        CHECKS.due("one member of 1", 1, server.members(1));
    }

    private static void failuresAreSorted() {
        ShelfServer server = new ShelfServer();
        server.makeCollection(0, 1, 0);
        int[] files = {19, 12, 15, 11};
        for (int path : files) {
            server.lock(1, path, false, false, 9, 0);
        }
        server.makeCollection(0, 13, 0);
        server.lock(1, 131, false, false, 9, 0);
        CHECKS.due("partly", ShelfServer.PARTLY, server.delete(0, 1, 0));
        int[] want = {11, 12, 15, 19, 131};
        CHECKS.due("failures", want.length, server.failures());
        for (int i = 0; i < want.length; i++) {
            CHECKS.due("failure " + i, want[i], server.failureAt(i));
        }
        CHECKS.badPlace("one more", () -> server.failureAt(want.length));
        CHECKS.badPlace("below 0", () -> server.failureAt(-1));
        CHECKS.badPlace("far below 0", () -> server.failureAt(Integer.MIN_VALUE));
        CHECKS.badPlace("far above", () -> server.failureAt(Integer.MAX_VALUE));
        CHECKS.due("all stay", 7, server.resources());
        CHECKS.due("in their order", 19, server.memberAt(1, 0));
        CHECKS.due("the last one", 13, server.memberAt(1, 4));
    }

    private static void stayingDoesNotHangOnTheParent() {
        ShelfServer server = tree();
        server.lock(1, 12, false, false, 9, 0);
        CHECKS.due("partly", ShelfServer.PARTLY, server.delete(0, 1, 0));
        CHECKS.due("one failure", 1, server.failures());
        CHECKS.due("121 went from the locked 12", NONE, server.kindOf(121));
        CHECKS.due("12 stays", ShelfServer.COLLECTION, server.kindOf(12));
        CHECKS.due("1, 12 and 2", 3, server.resources());
    }

    private static void deepLocks() {
        ShelfServer server = tree();
        server.lock(1, 11, false, true, 9, 0);
        CHECKS.due("partly", ShelfServer.PARTLY, server.delete(0, 1, 0));
        CHECKS.due("all below a deep lock", 3, server.failures());
        CHECKS.due("the first", 11, server.failureAt(0));
        CHECKS.due("the second", 111, server.failureAt(1));
        CHECKS.due("the third", 112, server.failureAt(2));
        CHECKS.due("with the token", ShelfServer.DONE, server.delete(1, 1, 1));
        CHECKS.due("2 is left", 1, server.resources());
    }

    /** 111 is the client's by the lock of 11, which goes in the same call. */
    private static void askedAheadOfTheCall() {
        ShelfServer server = tree();
        server.lock(2, 1, true, true, 9, 0);
        server.lock(1, 1, true, false, 9, 0);
        server.lock(1, 11, true, true, 9, 0);
        CHECKS.due("tokens of 111", 5, server.covering(111));
        CHECKS.due("11 with all below", ShelfServer.DONE, server.delete(1, 11, 6));
        CHECKS.due("it is gone", NONE, server.kindOf(111));
        CHECKS.due("the rest may not be changed", ShelfServer.LOCKED, server.delete(1, 12, 6));
    }

    private static void failuresOfTheLastDelete() {
        ShelfServer server = tree();
        server.lock(1, 112, false, false, 9, 0);
        server.delete(0, 1, 0);
        CHECKS.badArgument("a delete that throws", () -> server.delete(0, 10, 0));
        CHECKS.due("leaves the failures", 1, server.failures());
        server.delete(1, 112, 1);
        CHECKS.due("a later one takes them", 0, server.failures());
        CHECKS.badPlace("all of them", () -> server.failureAt(0));
        ShelfServer other = tree();
        other.lock(1, 112, false, false, 9, 0);
        other.delete(0, 1, 0);
        other.pass(9);
        other.put(0, 112, 9, NONE, 0);
        other.copy(0, 2, 11, true, 0);
        other.move(0, 11, 3, true, 0);
        CHECKS.due("other calls leave the failures", 1, other.failures());
        CHECKS.due("even of a path that is no more", 112, other.failureAt(0));
        other.delete(0, 112, 0);
        CHECKS.due("MISSING takes them", 0, other.failures());
        lockedTakesFailures();
    }

    private static void lockedTakesFailures() {
        ShelfServer server = tree();
        server.lock(1, 112, false, false, 9, 0);
        server.delete(0, 1, 0);
        CHECKS.due("one", 1, server.failures());
        CHECKS.due("locked", ShelfServer.LOCKED, server.delete(0, 112, 0));
        CHECKS.due("LOCKED takes them", 0, server.failures());
    }

    private static void locksGo() {
        ShelfServer server = tree();
        server.lock(0, 11, false, true, 9, 0);
        server.lock(0, 2, false, false, 9, 0);
        CHECKS.due("delete 1", ShelfServer.DONE, server.delete(0, 1, 1));
        CHECKS.due("its lock is gone", 0, server.covering(11));
        CHECKS.due("also from below", 0, server.covering(111));
        CHECKS.badPlace("it can't be refreshed", () -> server.refresh(0, 0, 5));
        CHECKS.due("the other is there", 2, server.covering(2));
        CHECKS.due("only that one ends", 1, server.pass(9));
    }

    private static void newAtOldPath() {
        ShelfServer server = new ShelfServer();
        server.put(0, 1, 5, NONE, 0);
        server.keep(1);
        server.put(0, 2, 6, NONE, 0);
        server.delete(0, 1, 0);
        server.put(0, 1, 7, NONE, 0);
        CHECKS.due("the old versions are gone", ShelfServer.MISSING, server.restore(0, 1, 0, 0));
        CHECKS.due("it is the last member", 1, server.memberAt(0, 1));
        CHECKS.due("versions begin again", 0, server.keep(1));
    }

    private static void partlyOfAFullServer() {
        ShelfServer server = ResourceTest.fullServer();
        server.lock(1, 72, true, false, 9, 0);
        CHECKS.due("partly", ShelfServer.PARTLY, server.delete(0, 7, 0));
        CHECKS.due("one went", 59, server.resources());
        CHECKS.due("which stayed", 72, server.failureAt(0));
        CHECKS.due("one may be made", ShelfServer.DONE, server.put(0, 71, 0, NONE, 0));
        server.lock(2, 0, true, true, 9, 0);
        server.lock(0, 0, true, false, 9, 0);
        server.lock(0, 1, true, false, 9, 0);
        CHECKS.due("all below the deep lock", ShelfServer.PARTLY, server.delete(0, 1, 12));
        CHECKS.due("they stay", 9, server.failures());
        CHECKS.due("full", 60, server.resources());
    }

    private static void wrongArguments() {
        ShelfServer server = tree();
        CHECKS.badArgument("client", () -> server.delete(4, 1, 0));
        CHECKS.badArgument("client below 0", () -> server.delete(-1, 1, 0));
        CHECKS.badArgument("the top", () -> server.delete(0, 0, 0));
        CHECKS.badArgument("no path", () -> server.delete(0, 20, 0));
        CHECKS.badArgument("five digits", () -> server.delete(0, 11111, 0));
        CHECKS.badArgument("below 0", () -> server.delete(0, -1, 0));
        CHECKS.badArgument("tokens", () -> server.delete(0, 1, -1));
        CHECKS.due("all there", 8, server.resources());
    }
}
