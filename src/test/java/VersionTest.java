/** Promises 20 and 21: keep and restore. */
final class VersionTest {
    private static final int NONE = ShelfServer.NONE;
    private static final Checks CHECKS = new Checks("VersionTest");

    public static void main(String[] args) {
        keeping();
        keepRefused();
        restoring();
        restoreRefused();
        wrongArguments();
        CHECKS.finish();
    }

    private static ShelfServer server() {
        ShelfServer server = new ShelfServer();
        server.put(0, 1, 5, NONE, 0);
        server.put(0, 2, 6, NONE, 0);
        server.makeCollection(0, 3, 0);
        return server;
    }

    private static void keeping() {
        ShelfServer server = server();
        for (int i = 0; i < 10; i++) {
            CHECKS.due("version", i, server.keep(1));
            CHECKS.due("the content is left", i == 0 ? 5 : 100 + i - 1, server.content(1));
            server.put(0, 1, 100 + i, NONE, 0);
        }
        CHECKS.badState("an eleventh", () -> server.keep(1));
        CHECKS.due("another file has its own", 0, server.keep(2));
        CHECKS.due("the first", ShelfServer.DONE, server.restore(0, 1, 0, 0));
        CHECKS.due("its content", 5, server.content(1));
        CHECKS.due("the last", ShelfServer.DONE, server.restore(0, 1, 9, 0));
        CHECKS.due("its content too", 108, server.content(1));
        CHECKS.badState("restoring makes no room", () -> server.keep(1));
        server.lock(1, 2, false, false, 9, 0);
        CHECKS.due("locks do not matter", 1, server.keep(2));
    }

    private static void keepRefused() {
        ShelfServer server = server();
        CHECKS.badState("a collection", () -> server.keep(3));
        CHECKS.badState("the top", () -> server.keep(0));
        CHECKS.badState("nothing", () -> server.keep(31));
        CHECKS.due("numbers begin with 0", 0, server.keep(1));
    }

    private static void restoring() {
        ShelfServer server = server();
        server.keep(1);
        server.put(0, 1, 7, NONE, 0);
        server.keep(1);
        server.put(0, 1, 8, NONE, 0);
        CHECKS.due("version 0", ShelfServer.DONE, server.restore(0, 1, 0, 0));
        CHECKS.due("content", 5, server.content(1));
        CHECKS.due("version 1", ShelfServer.DONE, server.restore(3, 1, 1, 0));
        CHECKS.due("content 1", 7, server.content(1));
        CHECKS.due("version 0 again", ShelfServer.DONE, server.restore(0, 1, 0, 0));
        CHECKS.due("the next number", 2, server.keep(1));
        CHECKS.due("the other is left", 6, server.content(2));
    }

    private static void restoreRefused() {
        ShelfServer server = server();
        server.keep(1);
        server.put(0, 1, 9, NONE, 0);
        CHECKS.due("no such version", ShelfServer.MISSING, server.restore(0, 1, 1, 0));
        CHECKS.due("far above", ShelfServer.MISSING, server.restore(0, 1, Integer.MAX_VALUE, 0));
        CHECKS.due("none of that file", ShelfServer.MISSING, server.restore(0, 2, 0, 0));
        CHECKS.due("a collection", ShelfServer.MISSING, server.restore(0, 3, 0, 0));
        CHECKS.due("the top", ShelfServer.MISSING, server.restore(0, 0, 0, 0));
        CHECKS.due("nothing", ShelfServer.MISSING, server.restore(0, 31, 0, 0));
        server.lock(1, 1, false, false, 9, 0);
        CHECKS.due("locked", ShelfServer.LOCKED, server.restore(0, 1, 0, 1));
        CHECKS.due("without the token", ShelfServer.LOCKED, server.restore(1, 1, 0, 0));
        CHECKS.due("MISSING ahead of LOCKED", ShelfServer.MISSING, server.restore(0, 1, 1, 0));
        CHECKS.due("not written", 9, server.content(1));
        CHECKS.due("with the token", ShelfServer.DONE, server.restore(1, 1, 0, 1));
        CHECKS.due("written", 5, server.content(1));
        server.lock(1, 0, false, false, 9, 0);
        server.pass(1);
        CHECKS.due("the parent is not asked", ShelfServer.DONE, server.restore(1, 1, 0, 1));
    }

    private static void wrongArguments() {
        ShelfServer server = server();
        server.keep(1);
        CHECKS.badArgument("keep, no path", () -> server.keep(10));
        CHECKS.badArgument("keep, below 0", () -> server.keep(-1));
        CHECKS.badArgument("keep, five digits", () -> server.keep(11111));
        CHECKS.badArgument("restore, client", () -> server.restore(4, 1, 0, 0));
        CHECKS.badArgument("restore, client below 0", () -> server.restore(-1, 1, 0, 0));
        CHECKS.badArgument("restore, path", () -> server.restore(0, 10, 0, 0));
        CHECKS.badArgument("restore, version", () -> server.restore(0, 1, -1, 0));
        CHECKS.badArgument("restore, tokens", () -> server.restore(0, 1, 0, -1));
        CHECKS.badArgument("restore of nothing, version", () -> server.restore(0, 31, -1, 0));
    }
}
