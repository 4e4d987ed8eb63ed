/** The sentences of the document's 'Terms' on how a call went, on what comes first, and on exceptions. */
final class RefusalSentences extends Part {
    RefusalSentences(Sentences it) {
        super(it);
    }

    @Override
    void run() {
        section("Terms");
        changeNothing();
        done();
        missing();
        exists();
        condition();
        locked();
        full();
        partly();
        firstOfMakeCollection();
        firstOfPut();
        firstOfCopy();
        firstOfMove();
        firstOfOthers();
        outOfRange();
        digitsNotSo();
        asTold();
        listedFirst();
        thrownChangesNothing();
    }

    private void changeNothing() {
        of("Calls that change something return how it went, and change nothing unless that is DONE or PARTLY:");
        refused("makeCollection", LOCKED, Part::rich, x -> x.makeCollection(0, 22, 0));
        refused("put", LOCKED, Part::rich, x -> x.put(0, 112, 1, NONE, 0));
        refused("put of a new one", LOCKED, Part::rich, x -> x.put(0, 22, 1, NONE, 0));
        refused("delete", LOCKED, Part::lockedTree, x -> x.delete(0, 112, 0));
        refused("copy", LOCKED, Part::rich, x -> x.copy(0, 3, 11, true, 0));
        refused("copy, full", FULL, Part::fullServer, x -> x.copy(0, 1, 6, true, 0));
        refused("move", LOCKED, Part::rich, x -> x.move(0, 3, 11, true, 0));
        refused("move of what is locked below", LOCKED, Part::rich, x -> x.move(0, 1, 4, true, 0));
        refused("order", LOCKED, Part::rich, x -> x.order(0, 21, 0, 0));
        refused("restore", LOCKED, Part::rich, x -> x.restore(0, 112, 0, 0));
    }

    private void done() {
        of("DONE;");
        ShelfServer server = tree();
        it.due("makeCollection", DONE, server.makeCollection(0, 4, 0));
        it.due("put", DONE, server.put(0, 41, 5, NONE, 0));
        it.due("copy", DONE, server.copy(0, 41, 42, false, 0));
        it.due("move", DONE, server.move(0, 42, 43, false, 0));
        it.due("order", DONE, server.order(0, 43, 0, 0));
        members(server, 4, 43, 41);
        it.due("keep", 0, server.keep(43));
        it.due("put anew", DONE, server.put(0, 43, 6, 5, 0));
        it.due("restore", DONE, server.restore(0, 43, 0, 0));
        it.due("the content", 5, server.content(43));
        it.due("delete", DONE, server.delete(0, 4, 0));
        it.due("all as ahead", 8, server.resources());
    }

    private void missing() {
        of("MISSING, there is no resource where there must be one;");
        refused("makeCollection", MISSING, Part::rich, x -> x.makeCollection(0, 41, 0));
        refused("put", MISSING, Part::rich, x -> x.put(0, 41, 0, NONE, 0));
        refused("delete", MISSING, Part::lockedTree, x -> x.delete(0, 4, 0));
        refused("copy from nothing", MISSING, Part::rich, x -> x.copy(0, 4, 13, true, 0));
        refused("copy to no parent", MISSING, Part::rich, x -> x.copy(0, 12, 41, true, 0));
        refused("move from nothing", MISSING, Part::rich, x -> x.move(0, 4, 13, true, 0));
        refused("move to no parent", MISSING, Part::rich, x -> x.move(0, 12, 41, true, 0));
        refused("order", MISSING, Part::rich, x -> x.order(0, 4, 0, 0));
        refused("restore", MISSING, Part::rich, x -> x.restore(0, 4, 0, 0));
    }

    private void exists() {
        of("EXISTS, there is one where there must not be;");
        refused("makeCollection at a collection", EXISTS, Part::rich, x -> x.makeCollection(0, 1, 0));
        refused("makeCollection at a file", EXISTS, Part::rich, x -> x.makeCollection(0, 12, 0));
        refused("put at a collection", EXISTS, Part::rich, x -> x.put(0, 11, 0, NONE, 0));
        refused("copy to a file", EXISTS, Part::rich, x -> x.copy(0, 12, 3, false, 0));
        refused("copy to a collection", EXISTS, Part::rich, x -> x.copy(0, 3, 1, false, 0));
        refused("move to a file", EXISTS, Part::rich, x -> x.move(0, 12, 3, false, 0));
        refused("move to a collection", EXISTS, Part::rich, x -> x.move(0, 3, 1, false, 0));
    }

    private void condition() {
        of("CONDITION, the content is another one;");
        refused("a larger one", CONDITION, Part::rich, x -> x.put(0, 12, 0, 13, 0));
        refused("a smaller one", CONDITION, Part::rich, x -> x.put(0, 12, 0, 11, 0));
        refused("the one ahead", CONDITION, Part::rich, x -> x.put(0, 3, 0, 3, 0));
        it.due("the content itself", DONE, rich().put(0, 3, 0, 10, 0));
    }

    private void locked() {
        of("LOCKED, the client may not change a path that has to be changed;");
        refused("the path of a file", LOCKED, Part::rich, x -> x.put(0, 112, 0, NONE, MOST));
        refused("the parent of what is made", LOCKED, Part::rich, x -> x.put(0, 22, 0, NONE, MOST));
        refused("without the token", LOCKED, Part::rich, x -> x.put(1, 112, 0, NONE, MOST - 1));
        it.due("with the token", DONE, rich().put(1, 112, 0, NONE, 1));
        it.due("a path that is only read", DONE, rich().copy(0, 112, 4, false, 0));
    }

    private void full() {
        of("FULL, there would be more than 60 resources;");
        refused("makeCollection", FULL, Part::fullServer, x -> x.makeCollection(0, 9, 0));
        refused("put", FULL, Part::fullServer, x -> x.put(0, 9, 0, NONE, 0));
        refused("copy", FULL, Part::fullServer, x -> x.copy(0, 66, 9, false, 0));
        it.due("put where a file is", DONE, fullServer().put(0, 66, 0, NONE, 0));
        it.due("copy where a file is", DONE, fullServer().copy(0, 11, 66, true, 0));
        it.due("move", DONE, fullServer().move(0, 11, 9, false, 0));
    }

    private void partly() {
        of("PARTLY, as told.");
        ShelfServer server = lockedTree();
        it.due("delete", PARTLY, server.delete(0, 1, 0));
        it.due("what went", NONE, server.kindOf(111));
        it.due("what stayed", FILE, server.kindOf(112));
    }

    // ---- what comes first

    /** A full server of which client 1 alone may change the top, 1 and all in 2: tokens 0, 1 and 2. */
    private static ShelfServer fullAndLocked() {
        ShelfServer server = fullServer();
        exclusive(server, 1, 0);
        exclusive(server, 1, 1);
        exclusiveDeep(server, 1, 2);
        server.delete(0, 72, 0);
        server.makeCollection(0, 73, 0);
        return server;
    }

    private void firstOfMakeCollection() {
        of("If several apply, the one that comes first in this row (MISSING, EXISTS, CONDITION, LOCKED, FULL) is "
            + "returned.");
        refused("makeCollection, MISSING and LOCKED", MISSING, Part::rich, x -> x.makeCollection(0, 211, 0));
        refused("makeCollection, MISSING and FULL", MISSING, Part::fullServer, x -> x.makeCollection(0, 81, 0));
        refused("makeCollection, MISSING, LOCKED and FULL", MISSING, RefusalSentences::fullAndLocked,
            x -> x.makeCollection(0, 211, 0));
        refused("makeCollection, EXISTS and LOCKED", EXISTS, Part::rich, x -> x.makeCollection(0, 21, 0));
        refused("makeCollection, EXISTS and FULL", EXISTS, Part::fullServer, x -> x.makeCollection(0, 71, 0));
        refused("makeCollection, LOCKED and FULL", LOCKED, RefusalSentences::fullAndLocked,
            x -> x.makeCollection(0, 8, 0));
        refused("makeCollection, FULL alone", FULL, RefusalSentences::fullAndLocked,
            x -> x.makeCollection(1, 8, 1));
    }

    private void firstOfPut() {
        refused("put, MISSING and CONDITION", MISSING, Part::rich, x -> x.put(0, 41, 0, 0, 0));
        refused("put, MISSING and LOCKED", MISSING, Part::rich, x -> x.put(0, 211, 0, NONE, 0));
        refused("put, MISSING and FULL", MISSING, Part::fullServer, x -> x.put(0, 81, 0, NONE, 0));
        refused("put, EXISTS and CONDITION", EXISTS, Part::rich, x -> x.put(0, 1, 0, 0, 0));
        refused("put, EXISTS and LOCKED", EXISTS, Part::rich, x -> x.put(0, 2, 0, NONE, 0));
        refused("put, CONDITION and LOCKED at a file", CONDITION, Part::rich, x -> x.put(0, 112, 0, 0, 0));
        refused("put, CONDITION and LOCKED at nothing", CONDITION, Part::rich, x -> x.put(0, 22, 0, 0, 0));
        refused("put, CONDITION and FULL", CONDITION, Part::fullServer, x -> x.put(0, 8, 0, 0, 0));
        refused("put, LOCKED and FULL", LOCKED, RefusalSentences::fullAndLocked, x -> x.put(0, 8, 0, NONE, 0));
        refused("put, FULL alone", FULL, RefusalSentences::fullAndLocked, x -> x.put(1, 8, 0, NONE, 1));
    }

    private void firstOfCopy() {
        refused("copy, MISSING at from and EXISTS", MISSING, Part::rich, x -> x.copy(0, 4, 3, false, 0));
        refused("copy, MISSING at from and LOCKED", MISSING, Part::rich, x -> x.copy(0, 4, 2, true, 0));
        refused("copy, MISSING at the parent and LOCKED", MISSING, Part::rich, x -> x.copy(0, 3, 211, true, 0));
        refused("copy, MISSING at the parent and FULL", MISSING, Part::fullServer, x -> x.copy(0, 1, 81, true, 0));
        refused("copy, too many digits and LOCKED", MISSING, RefusalSentences::deepAndLocked,
            x -> x.copy(0, 1, 2222, true, 0));
        refused("copy, too many digits and EXISTS", MISSING, RefusalSentences::deepAndLocked,
            x -> x.copy(0, 1, 2222, false, 0));
        refused("copy, EXISTS and LOCKED", EXISTS, Part::rich, x -> x.copy(0, 3, 2, false, 0));
        refused("copy, EXISTS and FULL", EXISTS, Part::fullServer, x -> x.copy(0, 1, 6, false, 0));
        refused("copy, LOCKED and FULL", LOCKED, RefusalSentences::fullAndLocked, x -> x.copy(0, 3, 8, false, 0));
        refused("copy, FULL alone", FULL, RefusalSentences::fullAndLocked, x -> x.copy(1, 3, 8, false, 1));
    }

    /** 1 with 11; 2, 22, 222 and 2222, which is client 1's. */
    private static ShelfServer deepAndLocked() {
        ShelfServer server = new ShelfServer();
        collections(server, 1, 2, 22, 222);
        files(server, 11, 2222);
        exclusive(server, 1, 2222);
        return server;
    }

    private void firstOfMove() {
        refused("move, MISSING at from and EXISTS", MISSING, Part::rich, x -> x.move(0, 4, 3, false, 0));
        refused("move, MISSING at from and LOCKED", MISSING, Part::rich, x -> x.move(0, 22, 4, true, 0));
        refused("move, MISSING at the parent and LOCKED", MISSING, Part::rich, x -> x.move(0, 112, 41, true, 0));
        refused("move, too many digits and LOCKED", MISSING, RefusalSentences::deepAndLocked,
            x -> x.move(0, 1, 2222, true, 0));
        refused("move, too many digits and EXISTS", MISSING, RefusalSentences::deepAndLocked,
            x -> x.move(0, 1, 2222, false, 0));
        refused("move, EXISTS and LOCKED at to", EXISTS, Part::rich, x -> x.move(0, 3, 2, false, 0));
        refused("move, EXISTS and LOCKED at from", EXISTS, Part::rich, x -> x.move(0, 112, 3, false, 0));
        refused("move, LOCKED in a full server", LOCKED, RefusalSentences::fullAndLocked,
            x -> x.move(0, 3, 8, false, 0));
    }

    private void firstOfOthers() {
        refused("delete, MISSING and LOCKED", MISSING, Part::lockedTree, x -> x.delete(0, 22, 0));
        refused("order, MISSING and LOCKED", MISSING, Part::rich, x -> x.order(0, 22, 0, 0));
        refused("restore, MISSING and LOCKED", MISSING, Part::rich, x -> x.restore(0, 112, 1, 0));
    }

    // ---- exceptions

    private void outOfRange() {
        of("An IllegalArgumentException is thrown if a path, a client or another argument is out of its range");
        badArgument("a path", Part::rich, x -> x.kindOf(11111));
        badArgument("a client", Part::rich, x -> x.delete(4, 1, 0));
        badArgument("tokens", Part::rich, x -> x.delete(0, 1, -1));
        badArgument("content", Part::rich, x -> x.put(0, 4, 1000, NONE, 0));
        badArgument("expected", Part::rich, x -> x.put(0, 4, 0, -2, 0));
        badArgument("a place", Part::rich, x -> x.order(0, 1, -1, 0));
        badArgument("ticks", Part::rich, x -> x.lock(0, 4, false, false, 1001, 0));
        badArgument("a version", Part::rich, x -> x.restore(0, 3, -1, 0));
    }

    private void digitsNotSo() {
        of("(a number whose digits are not so is no path),");
        for (int path : new int[] {10, 101, 1001, 1110, 1011, 1101, 20, 900, 9000, 10000, 12345, -1, -12}) {
            badArgument("kindOf " + path, Part::tree, x -> x.kindOf(path));
            badArgument("put at " + path, Part::tree, x -> x.put(0, path, 0, NONE, 0));
            badArgument("lock of " + path, Part::tree, x -> x.lock(0, path, true, true, 1, 0));
        }
    }

    private void asTold() {
        of("an IndexOutOfBoundsException and an IllegalStateException as told.");
        badPlace("memberAt", Part::rich, x -> x.memberAt(1, 2));
        badPlace("failureAt", Part::rich, x -> x.failureAt(1));
        badPlace("refresh", Part::rich, x -> x.refresh(0, 5, 1));
        badState("refresh of another's", Part::rich, x -> x.refresh(0, 0, 1));
        badState("lock", Part::rich, x -> x.lock(0, 112, true, false, 1, 0));
        badState("keep", Part::rich, x -> x.keep(1));
    }

    private void listedFirst() {
        of("If several exceptions of a throws clause apply, the one that is listed first is thrown.");
        badArgument("memberAt, argument and place", Part::rich, x -> x.memberAt(10, -1));
        badArgument("lock, client and state", Part::rich, x -> x.lock(4, 112, false, false, 5, 0));
        badArgument("lock, ticks and state", Part::rich, x -> x.lock(0, 112, false, false, 0, 0));
        badArgument("lock, tokens and state", Part::rich, x -> x.lock(0, 112, false, false, 5, -1));
        badArgument("lock, path and 30 locks", RefusalSentences::thirtyLocks, x -> x.lock(0, 10, true, false, 5, 0));
        badPlace("refresh, place, client and ticks", Part::rich, x -> x.refresh(4, 5, 1001));
        badPlace("refresh of one that is gone, client", Part::rich, x -> x.refresh(-1, 3, 5));
        badPlace("refresh below 0, ticks", Part::rich, x -> x.refresh(0, -1, -1));
        badArgument("refresh, ticks and state", Part::rich, x -> x.refresh(0, 0, 1001));
        badArgument("refresh, client and state", Part::rich, x -> x.refresh(4, 0, 5));
        badArgument("pass, ticks and time", () -> TermsSentences.atTime(1000000), x -> x.pass(1001));
        badArgument("keep, path and state", Part::rich, x -> x.keep(1000));
    }

    private static ShelfServer thirtyLocks() {
        ShelfServer server = tree();
        for (int token = 0; token < 30; token++) {
            shared(server, token % 4, 3);
        }
        return server;
    }

    private void thrownChangesNothing() {
        of("A call that throws an exception changes nothing.");
        badArgument("makeCollection", Part::rich, x -> x.makeCollection(0, 4, -1));
        badArgument("put", Part::rich, x -> x.put(0, 3, 5, NONE, -1));
        badArgument("put of a new one", Part::rich, x -> x.put(0, 4, 5, NONE, -1));
        badArgument("delete", Part::rich, x -> x.delete(0, 1, -1));
        badArgument("copy", Part::rich, x -> x.copy(0, 12, 3, true, -1));
        badArgument("move", Part::rich, x -> x.move(0, 12, 3, true, -1));
        badArgument("copy into itself", Part::rich, x -> x.copy(0, 1, 13, true, 0));
        badArgument("move into itself", Part::rich, x -> x.move(0, 1, 13, true, 0));
        badArgument("order", Part::rich, x -> x.order(0, 3, 0, -1));
        badArgument("restore", Part::rich, x -> x.restore(0, 3, 0, -1));
        badArgument("lock", Part::rich, x -> x.lock(0, 4, true, false, 5, -1));
        badState("lock of what is locked", Part::rich, x -> x.lock(0, 112, true, false, 5, 0));
        badState("lock of nothing", RefusalSentences::thirtyLocks, x -> x.lock(0, 4, true, false, 5, 0));
        badArgument("refresh", Part::rich, x -> x.refresh(1, 0, 1001));
        badState("refresh of another's", Part::rich, x -> x.refresh(2, 0, 0));
        badArgument("pass", Part::rich, x -> x.pass(1001));
        badState("pass", RefusalSentences::lateAndLocked, x -> x.pass(43));
        badState("keep", RefusalSentences::allKept, x -> x.keep(3));
    }

    /** Its time is 999958, and the lock has 42 ticks left. */
    private static ShelfServer lateAndLocked() {
        ShelfServer server = TermsSentences.atTime(999950);
        server.lock(0, 3, false, false, 50, 0);
        server.pass(8);
        return server;
    }

    private static ShelfServer allKept() {
        ShelfServer server = tree();
        for (int version = 0; version < 10; version++) {
            server.keep(3);
            server.put(0, 3, 500 + version, NONE, 0);
        }
        return server;
    }
}
