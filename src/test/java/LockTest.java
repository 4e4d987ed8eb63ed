/** Promises 15 to 19: lock, refresh, pass, covering, mayChange. */
final class LockTest {
    private static final int NONE = ShelfServer.NONE;
    private static final Checks CHECKS = new Checks("LockTest");

    public static void main(String[] args) {
        tokensInARow();
        sharedAndExclusive();
        deepAndNot();
        deepOverLocksBelow();
        onNamesAtWhichNothingIs();
        noFileCanBeMade();
        thirtyLocks();
        refreshing();
        refreshRefused();
        passing();
        endOfTime();
        covered();
        whoMayChange();
        wrongArguments();
        CHECKS.finish();
    }

    private static ShelfServer tree() {
        ShelfServer server = new ShelfServer();
        server.makeCollection(0, 1, 0);
        server.makeCollection(0, 11, 0);
        server.put(0, 111, 1, NONE, 0);
        server.put(0, 12, 2, NONE, 0);
        server.makeCollection(0, 2, 0);
        return server;
    }

    private static void tokensInARow() {
        ShelfServer server = tree();
        CHECKS.due("the first", 0, server.lock(0, 12, false, false, 5, 0));
        CHECKS.badState("one that throws", () -> server.lock(0, 12, false, false, 5, 0));
        CHECKS.due("the second", 1, server.lock(0, 2, false, false, 1000, 0));
        server.refresh(0, 1, 0);
        CHECKS.due("no token is used twice", 2, server.lock(0, 2, false, false, 1, 0));
        CHECKS.due("nothing was made", 5, server.resources());
    }

    private static void sharedAndExclusive() {
        ShelfServer server = tree();
        CHECKS.due("shared", 0, server.lock(0, 12, true, false, 5, 0));
        CHECKS.due("shared with it", 1, server.lock(1, 12, true, false, 6, 0));
        CHECKS.due("shared by the same client", 2, server.lock(1, 12, true, true, 6, 0));
        CHECKS.badState("exclusive over shared", () -> server.lock(2, 12, false, false, 5, 7));
        CHECKS.badState("exclusive over one's own", () -> server.lock(0, 12, false, false, 5, 7));
        CHECKS.due("exclusive elsewhere", 3, server.lock(0, 111, false, false, 5, 0));
        CHECKS.badState("shared over exclusive", () -> server.lock(1, 111, true, false, 5, 0));
        CHECKS.badState("shared over one's own exclusive", () -> server.lock(0, 111, true, false, 5, 8));
        server.pass(5);
        CHECKS.due("exclusive after the end", 4, server.lock(1, 111, false, false, 5, 0));
        CHECKS.badState("some shared are left", () -> server.lock(0, 12, false, false, 5, 0));
        server.pass(1);
        CHECKS.due("none is left", 5, server.lock(0, 12, false, false, 5, 0));
    }

    private static void deepAndNot() {
        ShelfServer server = tree();
        server.lock(0, 1, false, false, 5, 0);
        CHECKS.due("not deep", 1, server.lock(1, 11, false, true, 5, 0));
        CHECKS.badState("deep above", () -> server.lock(2, 111, true, false, 5, 0));
        CHECKS.badState("deep above, one's own", () -> server.lock(1, 111, true, false, 5, 2));
        CHECKS.due("beside it", 2, server.lock(2, 12, false, false, 5, 0));
        CHECKS.due("the top above it", 3, server.lock(3, 0, false, false, 5, 0));
        ShelfServer all = tree();
        all.lock(0, 0, false, true, 5, 0);
        CHECKS.badState("deep at the top", () -> all.lock(0, 111, true, false, 5, 1));
        CHECKS.badState("deep at the top, over nothing", () -> all.lock(0, 3, true, false, 5, 1));
        ShelfServer shared = tree();
        shared.lock(0, 0, true, true, 5, 0);
        CHECKS.due("shared below deep and shared", 1, shared.lock(1, 111, true, false, 5, 0));
        CHECKS.badState("exclusive below deep and shared", () -> shared.lock(1, 12, false, false, 5, 0));
    }

    private static void deepOverLocksBelow() {
        ShelfServer server = tree();
        server.lock(0, 111, false, false, 5, 0);
        CHECKS.badState("deep over an exclusive one", () -> server.lock(1, 1, true, true, 5, 0));
        CHECKS.badState("deep and exclusive", () -> server.lock(0, 0, false, true, 5, 0));
        CHECKS.due("not deep", 1, server.lock(1, 1, false, false, 5, 0));
        ShelfServer shared = tree();
        shared.lock(0, 111, true, false, 5, 0);
        CHECKS.badState("exclusive and deep over a shared one", () -> shared.lock(1, 1, false, true, 5, 0));
        CHECKS.due("shared and deep over a shared one", 1, shared.lock(1, 1, true, true, 5, 0));
        CHECKS.due("deep beside it", 2, shared.lock(1, 2, false, true, 5, 0));
        shared.pass(5);
        CHECKS.due("over one that has ended", 3, shared.lock(1, 0, false, true, 5, 0));
    }

    private static void onNamesAtWhichNothingIs() {
        ShelfServer server = tree();
        CHECKS.due("lock nothing", 0, server.lock(0, 22, false, false, 5, 0));
        CHECKS.due("a file is there", ShelfServer.FILE, server.kindOf(22));
        CHECKS.due("its content", 0, server.content(22));
        CHECKS.due("in its parent", 22, server.memberAt(2, 0));
        CHECKS.due("it is covered", 1, server.covering(22));
        server.pass(5);
        CHECKS.due("it stays after the lock", ShelfServer.FILE, server.kindOf(22));
        server.put(0, 22, 7, NONE, 0);
        server.lock(0, 22, true, false, 5, 0);
        CHECKS.due("a lock leaves what is there", 7, server.content(22));
        CHECKS.due("a collection too", 2, server.lock(0, 1, true, false, 5, 0));
        CHECKS.due("a collection still", ShelfServer.COLLECTION, server.kindOf(1));
    }

    private static void noFileCanBeMade() {
        ShelfServer server = tree();
        CHECKS.badState("no parent", () -> server.lock(0, 31, false, false, 5, 0));
        CHECKS.badState("a file as parent", () -> server.lock(0, 121, false, false, 5, 0));
        server.lock(1, 2, true, true, 5, 0);
        CHECKS.badState("the parent is locked", () -> server.lock(0, 21, true, false, 5, 1));
        CHECKS.badState("without the token", () -> server.lock(1, 21, true, false, 5, 0));
        CHECKS.due("nothing was made", 5, server.resources());
        CHECKS.due("no lock but one", 1, server.covering(21));
        CHECKS.due("with the token", 1, server.lock(1, 21, true, false, 5, 1));
        ShelfServer full = ResourceTest.fullServer();
        CHECKS.badState("full", () -> full.lock(0, 8, false, false, 5, 0));
        CHECKS.due("full, of what is there", 0, full.lock(0, 7, false, false, 5, 0));
    }

    private static void thirtyLocks() {
        ShelfServer server = tree();
        for (int i = 0; i < 30; i++) {
            CHECKS.due("lock " + i, i, server.lock(i % 4, 111, true, false, 1 + i, 0));
        }
        CHECKS.badState("one more", () -> server.lock(0, 111, true, false, 5, 0));
        CHECKS.badState("one more at another path", () -> server.lock(0, 2, true, false, 5, 0));
        CHECKS.badState("one more where nothing is", () -> server.lock(0, 3, true, false, 5, 0));
        CHECKS.due("nothing was made", NONE, server.kindOf(3));
        CHECKS.due("all of them", (1 << 30) - 1, server.covering(111));
        CHECKS.yes("the last token", server.mayChange(1, 111, 1 << 29));
        CHECKS.no("a token that is none", server.mayChange(1, 111, 1 << 30));
        CHECKS.due("ends", 29, server.pass(29));
        CHECKS.due("the last one", 1 << 29, server.covering(111));
        CHECKS.due("the last one has left", 1, server.refresh(1, 29, 0));
        CHECKS.badState("there have been 30", () -> server.lock(0, 111, true, false, 5, 0));
    }

    private static void refreshing() {
        ShelfServer server = tree();
        server.lock(0, 12, false, false, 10, 0);
        server.pass(3);
        CHECKS.due("left", 7, server.refresh(0, 0, 1000));
        CHECKS.due("left again", 1000, server.refresh(0, 0, 2));
        server.pass(1);
        CHECKS.due("one tick more", 1, server.refresh(0, 0, 1));
        CHECKS.due("it ends", 1, server.pass(1));
        CHECKS.badPlace("it has ended", () -> server.refresh(0, 0, 5));
        server.lock(0, 12, false, false, 10, 0);
        CHECKS.due("let go", 10, server.refresh(0, 1, 0));
        CHECKS.due("it is gone at once", 0, server.covering(12));
        CHECKS.badPlace("it has been let go", () -> server.refresh(0, 1, 5));
        CHECKS.due("it does not end again", 0, server.pass(100));
        CHECKS.due("the file is there", 2, server.content(12));
    }

    private static void refreshRefused() {
        ShelfServer server = tree();
        server.lock(0, 12, false, false, 10, 0);
        CHECKS.badState("another client's", () -> server.refresh(1, 0, 5));
        CHECKS.badArgument("client", () -> server.refresh(4, 0, 5));
        CHECKS.badArgument("client below 0", () -> server.refresh(-1, 0, 5));
        CHECKS.badArgument("ticks", () -> server.refresh(0, 0, 1001));
        CHECKS.badArgument("ticks below 0", () -> server.refresh(0, 0, -1));
        CHECKS.badArgument("ticks ahead of another client", () -> server.refresh(1, 0, 1001));
        CHECKS.badPlace("no such token", () -> server.refresh(0, 1, 5));
        CHECKS.badPlace("token below 0", () -> server.refresh(0, -1, 5));
        CHECKS.badPlace("token 30", () -> server.refresh(0, 30, 5));
        CHECKS.badPlace("no such token ahead of all", () -> server.refresh(9, Integer.MAX_VALUE, -5));
        CHECKS.due("nothing changed", 10, server.refresh(0, 0, 10));
    }

    private static void passing() {
        ShelfServer server = tree();
        server.lock(0, 12, true, false, 3, 0);
        server.lock(0, 12, true, false, 3, 0);
        server.lock(0, 12, true, false, 4, 0);
        server.lock(0, 12, true, false, 1000, 0);
        CHECKS.due("none", 0, server.pass(2));
        CHECKS.due("all there", 15, server.covering(12));
        CHECKS.due("two at their end", 2, server.pass(1));
        CHECKS.due("two there", 12, server.covering(12));
        CHECKS.due("one, past its end", 1, server.pass(5));
        CHECKS.due("they do not end again", 0, server.pass(991));
        CHECKS.due("the last", 1, server.pass(1000));
        CHECKS.due("none left", 0, server.covering(12));
        CHECKS.badArgument("0", () -> server.pass(0));
        CHECKS.badArgument("below 0", () -> server.pass(-1));
        CHECKS.badArgument("1001", () -> server.pass(1001));
        CHECKS.badArgument("the largest", () -> server.pass(Integer.MAX_VALUE));
    }

    /** Takes more calls than an object is promised for: in 512 calls the time can't come so far. */
    private static void endOfTime() {
        ShelfServer server = tree();
        for (int i = 0; i < 999; i++) {
            server.pass(1000);
        }
        server.lock(0, 12, false, false, 1000, 0);
        CHECKS.due("up to 999999", 0, server.pass(999));
        CHECKS.badState("to 1000001", () -> server.pass(2));
        CHECKS.due("nothing changed", 1, server.refresh(0, 0, 1));
        CHECKS.due("to 1000000", 1, server.pass(1));
        CHECKS.badState("above it", () -> server.pass(1));
        CHECKS.badArgument("an argument ahead of it", () -> server.pass(1001));
    }

    private static void covered() {
        ShelfServer server = tree();
        server.lock(0, 1, true, true, 9, 0);
        server.lock(1, 11, true, false, 9, 0);
        server.lock(2, 111, true, true, 9, 0);
        CHECKS.due("the top", 0, server.covering(0));
        CHECKS.due("1", 1, server.covering(1));
        CHECKS.due("11", 3, server.covering(11));
        CHECKS.due("111", 5, server.covering(111));
        CHECKS.due("1119, below a deep one of a file", 5, server.covering(1119));
        CHECKS.due("119, where nothing is", 1, server.covering(119));
        CHECKS.due("2", 0, server.covering(2));
        CHECKS.due("21, digits alike", 0, server.covering(21));
        server.lock(3, 0, true, true, 9, 0);
        CHECKS.due("the top now", 8, server.covering(0));
        CHECKS.due("2 now", 8, server.covering(2));
        CHECKS.due("9999 now", 8, server.covering(9999));
    }

    private static void whoMayChange() {
        ShelfServer server = tree();
        CHECKS.yes("no lock, no tokens", server.mayChange(0, 111, 0));
        server.lock(0, 1, true, true, 9, 0);
        server.lock(1, 11, true, false, 9, 0);
        CHECKS.no("no tokens", server.mayChange(0, 111, 0));
        CHECKS.no("another token", server.mayChange(0, 111, 2));
        CHECKS.yes("the token", server.mayChange(0, 111, 1));
        CHECKS.no("the token of another", server.mayChange(1, 111, 1));
        CHECKS.no("a token that does not cover it", server.mayChange(1, 111, 3));
        CHECKS.yes("one of two tokens", server.mayChange(1, 11, 2));
        CHECKS.yes("all tokens", server.mayChange(1, 11, Integer.MAX_VALUE));
        CHECKS.no("a client without a lock", server.mayChange(2, 11, Integer.MAX_VALUE));
        CHECKS.yes("not covered", server.mayChange(2, 2, 0));
        CHECKS.yes("the top", server.mayChange(2, 0, 0));
        CHECKS.yes("where nothing is", server.mayChange(2, 31, 0));
        server.pass(9);
        CHECKS.yes("all have ended", server.mayChange(2, 111, 0));
    }

    private static void wrongArguments() {
        ShelfServer server = tree();
        CHECKS.badArgument("lock, client", () -> server.lock(4, 1, false, false, 5, 0));
        CHECKS.badArgument("lock, client below 0", () -> server.lock(-1, 1, false, false, 5, 0));
        CHECKS.badArgument("lock, path", () -> server.lock(0, 10, false, false, 5, 0));
        CHECKS.badArgument("lock, ticks", () -> server.lock(0, 1, false, false, 1001, 0));
        CHECKS.badArgument("lock, ticks 0", () -> server.lock(0, 1, false, false, 0, 0));
        CHECKS.badArgument("lock, tokens", () -> server.lock(0, 1, false, false, 5, -1));
        CHECKS.badArgument("lock, an argument ahead of a state", () -> server.lock(0, 31, false, false, 0, 0));
        CHECKS.badArgument("covering", () -> server.covering(10));
        CHECKS.badArgument("covering below 0", () -> server.covering(-1));
        CHECKS.badArgument("covering of five digits", () -> server.covering(11111));
        CHECKS.badArgument("mayChange, client", () -> server.mayChange(4, 1, 0) ? 1 : 0);
        CHECKS.badArgument("mayChange, client below 0", () -> server.mayChange(-1, 1, 0) ? 1 : 0);
        CHECKS.badArgument("mayChange, path", () -> server.mayChange(0, 901, 0) ? 1 : 0);
        CHECKS.badArgument("mayChange, tokens", () -> server.mayChange(0, 1, -1) ? 1 : 0);
        CHECKS.due("no locks", 0, server.covering(1));
        CHECKS.due("no token was used", 0, server.lock(0, 1, false, false, 5, 0));
    }
}
