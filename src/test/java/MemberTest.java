/** Promises 12 to 14: members, memberAt, order. */
final class MemberTest {
    private static final int NONE = ShelfServer.NONE;
    private static final Checks CHECKS = new Checks("MemberTest");

    public static void main(String[] args) {
        members();
        places();
        ordering();
        orderOfTheTop();
        orderIsRefused();
        wrongArguments();
        CHECKS.finish();
    }

    /** 1 with the members 13, 11, 12, of which 11 has 112 and 111. */
    private static ShelfServer tree() {
        ShelfServer server = new ShelfServer();
        server.makeCollection(0, 1, 0);
        server.put(0, 13, 0, NONE, 0);
        server.makeCollection(0, 11, 0);
        server.put(0, 112, 0, NONE, 0);
        server.put(0, 111, 0, NONE, 0);
        server.put(0, 12, 0, NONE, 0);
        return server;
    }

    private static void inOrder(ShelfServer server, String what, int path, int... want) {
        CHECKS.due(what + ": members of " + path, want.length, server.members(path));
        for (int i = 0; i < want.length; i++) {
            CHECKS.due(what + ": member " + i + " of " + path, want[i], server.memberAt(path, i));
        }
    }

    private static void members() {
        ShelfServer server = tree();
        CHECKS.due("of the top", 1, server.members(0));
        CHECKS.due("only its own", 3, server.members(1));
        CHECKS.due("of 11", 2, server.members(11));
        CHECKS.due("of a file", 0, server.members(13));
        CHECKS.due("of nothing", 0, server.members(9));
        CHECKS.due("of a path of 4 digits", 0, server.members(1111));
        server.delete(0, 13, 0);
        inOrder(server, "after a delete", 1, 11, 12);
        server.put(0, 13, 0, NONE, 0);
        inOrder(server, "made anew", 1, 11, 12, 13);
    }

    private static void places() {
        ShelfServer server = tree();
        inOrder(server, "as made", 1, 13, 11, 12);
        inOrder(server, "as made", 11, 112, 111);
        inOrder(server, "as made", 0, 1);
        CHECKS.badPlace("one too many", () -> server.memberAt(1, 3));
        CHECKS.badPlace("below 0", () -> server.memberAt(1, -1));
        CHECKS.badPlace("far below 0", () -> server.memberAt(1, Integer.MIN_VALUE));
        CHECKS.badPlace("far above", () -> server.memberAt(1, Integer.MAX_VALUE));
        CHECKS.badPlace("a file", () -> server.memberAt(13, 0));
        CHECKS.badPlace("nothing", () -> server.memberAt(9, 0));
        CHECKS.badPlace("an empty top", () -> new ShelfServer().memberAt(0, 0));
    }

    private static void ordering() {
        ShelfServer server = tree();
        CHECKS.due("to its own place", ShelfServer.DONE, server.order(0, 11, 1, 0));
        inOrder(server, "as it was", 1, 13, 11, 12);
        CHECKS.due("to the front", ShelfServer.DONE, server.order(0, 12, 0, 0));
        inOrder(server, "12 in front", 1, 12, 13, 11);
        CHECKS.due("to the middle", ShelfServer.DONE, server.order(3, 12, 1, 0));
        inOrder(server, "12 in the middle", 1, 13, 12, 11);
        CHECKS.due("to the end", ShelfServer.DONE, server.order(0, 13, 2, 0));
        inOrder(server, "13 at the end", 1, 12, 11, 13);
        CHECKS.due("behind all others", ShelfServer.DONE, server.order(0, 12, Integer.MAX_VALUE, 0));
        inOrder(server, "12 at the end", 1, 11, 13, 12);
        CHECKS.due("one more than there are", ShelfServer.DONE, server.order(0, 11, 3, 0));
        inOrder(server, "11 at the end", 1, 13, 12, 11);
        inOrder(server, "others", 11, 112, 111);
        inOrder(server, "the top", 0, 1);
        CHECKS.due("an only member", ShelfServer.DONE, server.order(0, 1, 5, 0));
        CHECKS.due("all are there", 6, server.resources());
        server.makeCollection(0, 14, 0);
        inOrder(server, "a new one", 1, 13, 12, 11, 14);
    }

    private static void orderOfTheTop() {
        ShelfServer server = new ShelfServer();
        server.put(0, 1, 0, NONE, 0);
        server.put(0, 2, 0, NONE, 0);
        server.put(0, 3, 0, NONE, 0);
        CHECKS.due("the last to the front", ShelfServer.DONE, server.order(0, 3, 0, 0));
        inOrder(server, "3 in front", 0, 3, 1, 2);
        CHECKS.due("the first to the end", ShelfServer.DONE, server.order(0, 3, 2, 0));
        inOrder(server, "3 at the end", 0, 1, 2, 3);
        CHECKS.due("the first to the middle", ShelfServer.DONE, server.order(0, 1, 1, 0));
        inOrder(server, "1 in the middle", 0, 2, 1, 3);
    }

    private static void orderIsRefused() {
        ShelfServer server = tree();
        CHECKS.due("nothing there", ShelfServer.MISSING, server.order(0, 14, 0, 0));
        server.lock(1, 13, false, false, 9, 0);
        CHECKS.due("only the parent is asked for", ShelfServer.DONE, server.order(0, 13, 1, 0));
        inOrder(server, "13 moved", 1, 11, 13, 12);
        server.lock(1, 1, false, false, 9, 0);
        CHECKS.due("the parent is locked", ShelfServer.LOCKED, server.order(0, 12, 0, 3));
        CHECKS.due("MISSING ahead of LOCKED", ShelfServer.MISSING, server.order(0, 14, 0, 0));
        inOrder(server, "nothing moved", 1, 11, 13, 12);
        CHECKS.due("without its token", ShelfServer.LOCKED, server.order(1, 12, 0, 1));
        CHECKS.due("with its token", ShelfServer.DONE, server.order(1, 12, 0, 2));
        inOrder(server, "12 moved", 1, 12, 11, 13);
        CHECKS.due("a member's member", ShelfServer.DONE, server.order(0, 111, 0, 0));
        inOrder(server, "111 moved", 11, 111, 112);
    }

    private static void wrongArguments() {
        ShelfServer server = tree();
        CHECKS.badArgument("members of no path", () -> server.members(10));
        CHECKS.badArgument("members below 0", () -> server.members(-1));
        CHECKS.badArgument("members of five digits", () -> server.members(11111));
        CHECKS.badArgument("memberAt of no path", () -> server.memberAt(100, 0));
        CHECKS.badArgument("memberAt, both wrong", () -> server.memberAt(100, -1));
        CHECKS.badArgument("order, client", () -> server.order(4, 11, 0, 0));
        CHECKS.badArgument("order, client below 0", () -> server.order(-1, 11, 0, 0));
        CHECKS.badArgument("order, the top", () -> server.order(0, 0, 0, 0));
        CHECKS.badArgument("order, no path", () -> server.order(0, 110, 0, 0));
        CHECKS.badArgument("order, place", () -> server.order(0, 11, -1, 0));
        CHECKS.badArgument("order, tokens", () -> server.order(0, 11, 0, -1));
        inOrder(server, "nothing moved", 1, 13, 11, 12);
    }
}
