/** The sentences of promises 15 to 19: lock, refresh, pass, covering, mayChange. */
final class LockSentences extends Part {
    LockSentences(Sentences it) {
        super(it);
    }

    @Override
    void run() {
        promise(15);
        locks();
        makesAFile();
        lockArguments();
        sharedOrNot();
        deepOrNot();
        ticksOfALock();
        tokensForTheFile();
        tokenOfTheLock();
        lockBadArguments();
        thirtyLocks();
        inTheWay();
        noFileCanBeMade();
        promise(16);
        refreshes();
        refreshArguments();
        refreshRefused();
        promise(17);
        passes();
        endOfTime();
        promise(18);
        covering();
        promise(19);
        mayChange();
    }

    // ---- lock

    private void locks() {
        of("Locks a path.");
        ShelfServer server = tree();
        it.due("a file", 0, server.lock(1, 3, false, false, 5, 0));
        it.due("it is covered", 1, server.covering(3));
        it.due("a collection", 1, server.lock(1, 11, false, false, 5, 0));
        it.due("it is covered too", 2, server.covering(11));
        it.due("it is a collection still", COLLECTION, server.kindOf(11));
        it.due("the top", 2, server.lock(2, 0, true, false, 5, 0));
        it.due("the top is covered", 4, server.covering(0));
        it.due("what is there is as it was", 3, server.content(3));
        it.due("no resource is made", 8, server.resources());
        it.due("the parent is not asked for", 3, server.lock(0, 12, false, false, 5, 0));
        it.due("in a full server", 0, fullServer().lock(0, 72, false, false, 5, 0));
    }

    private void makesAFile() {
        of("If there is nothing at it, a file with the content 0 is made there, as by put().");
        ShelfServer server = tree();
        it.due("in a collection", 0, server.lock(1, 22, false, true, 5, 0));
        it.due("a file", FILE, server.kindOf(22));
        it.due("its content", 0, server.content(22));
        members(server, 2, 21, 22);
        it.due("in the top", 1, server.lock(1, 9, true, false, 5, 0));
        members(server, 0, 1, 2, 3, 9);
        it.due("two more", 10, server.resources());
        server.pass(5);
        it.due("the file stays", FILE, server.kindOf(22));
        it.due("it has no versions", 0, server.keep(22));
    }

    private void lockArguments() {
        clients(Part::tree, (x, client) -> x.lock(client, 4, true, true, 5, 0));
        pathsWithTop(Part::tree, (x, path) -> x.lock(0, path, true, true, 5, 0));
    }

    private void sharedOrNot() {
        of("`isShared`: whether the lock is shared");
        ShelfServer server = tree();
        it.due("shared", 0, server.lock(0, 3, true, false, 5, 0));
        it.due("shared with it", 1, server.lock(0, 3, true, false, 5, 0));
        it.due("by another client", 2, server.lock(1, 3, true, false, 5, 0));
        it.due("exclusive", 3, server.lock(0, 12, false, false, 5, 0));
        it.badState("not with it", () -> server.lock(0, 12, true, false, 5, 0));
    }

    private void deepOrNot() {
        of("`isDeep`: whether it is deep");
        ShelfServer server = tree();
        server.lock(0, 1, true, false, 5, 0);
        server.lock(0, 2, true, true, 5, 0);
        it.due("not deep", 0, server.covering(11));
        it.due("deep", 2, server.covering(21));
        it.due("deep, where nothing is", 2, server.covering(2999));
    }

    private void ticksOfALock() {
        of("`ticks`: 1 to 1000: it ends so many ticks later");
        range(1, 1000, Part::tree, (x, ticks) -> x.lock(0, 4, true, true, ticks, 0));
        ShelfServer server = tree();
        server.pass(500);
        server.lock(0, 3, true, false, 1, 0);
        server.lock(0, 3, true, false, 1000, 0);
        it.due("1 is over", 1, server.pass(1));
        it.due("1000 is not", 0, server.pass(998));
        it.due("1000 is there", 2, server.covering(3));
        it.due("1000 is over", 1, server.pass(1));
        it.due("none is there", 0, server.covering(3));
    }

    private void tokensForTheFile() {
        tokens("`tokens`: a set of tokens, 0 or more, for making the file", Part::tree,
            (x, tokens) -> x.lock(0, 4, true, true, 5, tokens));
        it.due("with the parent's token", 5, rich().lock(2, 22, true, false, 5, 1 << 1));
        badState("without it", Part::rich, x -> x.lock(2, 22, true, false, 5, 1));
        it.due("none for a file that is there", 5, rich().lock(0, 21, true, false, 5, 0));
    }

    private void tokenOfTheLock() {
        of("Returns the token.");
        ShelfServer server = tree();
        for (int token = 0; token < 30; token++) {
            it.due("token " + token, token, server.lock(token % 4, 3, true, false, 1 + token, 0));
            it.yes("it is good for its client", server.mayChange(token % 4, 3, 1 << token));
        }
    }

    private void lockBadArguments() {
        of("Throws `IllegalArgumentException` if client, path, ticks or tokens is out of range");
        badArgument("client", Part::rich, x -> x.lock(4, 3, true, false, 5, 0));
        badArgument("path", Part::rich, x -> x.lock(0, 30, true, false, 5, 0));
        badArgument("ticks 0", Part::rich, x -> x.lock(0, 3, true, false, 0, 0));
        badArgument("ticks 1001", Part::rich, x -> x.lock(0, 4, true, false, 1001, 0));
        badArgument("tokens, of what is there", Part::rich, x -> x.lock(0, 3, true, false, 5, -1));
        badArgument("tokens, of what is not", Part::rich, x -> x.lock(0, 4, true, false, 5, LEAST));
        badArgument("client, full", Part::fullServer, x -> x.lock(-1, 8, true, false, 5, 0));
    }

    private void thirtyLocks() {
        of("Throws `IllegalStateException` if there have been 30 locks;");
        it.due("29 have been", 29, withLocks(29).lock(0, 12, false, false, 5, 0));
        badState("30 have been", () -> withLocks(30), x -> x.lock(0, 12, false, false, 5, 0));
        badState("30 have been, at a new path", () -> withLocks(30), x -> x.lock(0, 4, false, false, 5, 0));
        ShelfServer server = withLocks(30);
        server.pass(50);
        it.due("all have ended", 0, server.covering(3));
        it.badState("30 have been still", () -> server.lock(0, 3, true, false, 5, 0));
        server.delete(0, 3, 0);
        it.badState("their path has gone", () -> server.lock(0, 3, true, false, 5, 0));
        it.due("nothing is made", NONE, server.kindOf(3));
    }

    private static ShelfServer withLocks(int count) {
        ShelfServer server = tree();
        for (int token = 0; token < count; token++) {
            shared(server, token % 4, 3);
        }
        return server;
    }

    private static ShelfServer with(int path, boolean isShared, boolean isDeep) {
        ShelfServer server = tree();
        server.lock(1, path, isShared, isDeep, 9, 0);
        return server;
    }

    private void inTheWay() {
        of("a lock that covers the path, or, if the new one is deep, one of a path below it, is exclusive, or the new "
            + "one is;");
        for (boolean isDeep : new boolean[] {false, true}) {
            badState("exclusive there", () -> with(11, false, isDeep), x -> x.lock(0, 11, true, false, 5, 0));
            badState("shared there", () -> with(11, true, isDeep), x -> x.lock(0, 11, false, false, 5, 0));
            badState("both exclusive", () -> with(11, false, isDeep), x -> x.lock(0, 11, false, true, 5, 0));
            it.due("both shared", 1, with(11, true, isDeep).lock(0, 11, true, true, 5, 0));
            badState("one's own, with its token", () -> with(11, false, isDeep),
                x -> x.lock(1, 11, false, false, 5, 1));
            badState("one of a path below", () -> with(111, false, isDeep), x -> x.lock(0, 1, true, true, 5, 0));
            badState("a shared one of a path below", () -> with(111, true, isDeep),
                x -> x.lock(0, 1, false, true, 5, 0));
            badState("one below the top", () -> with(111, false, isDeep), x -> x.lock(0, 0, true, true, 5, 0));
            it.due("all shared, deep", 1, with(111, true, isDeep).lock(0, 1, true, true, 5, 0));
            it.due("one of a path below, not deep", 1, with(111, false, isDeep).lock(0, 1, false, false, 5, 0));
            it.due("beside it", 1, with(11, false, isDeep).lock(0, 12, false, true, 5, 0));
            it.due("digits alike", 1, with(12, false, isDeep).lock(0, 2, false, true, 5, 0));
        }
        badState("below a deep one", () -> with(1, false, true), x -> x.lock(0, 111, true, false, 5, 0));
        badState("below a deep one, where nothing is", () -> with(1, false, true),
            x -> x.lock(1, 13, true, false, 5, 1));
        badState("below a deep one of the top", () -> with(0, true, true), x -> x.lock(0, 3, false, false, 5, 0));
        it.due("below one that is not deep", 1, with(1, false, false).lock(0, 11, false, true, 5, 0));
        it.due("below one of the top that is not deep", 1, with(0, false, false).lock(0, 3, false, true, 5, 0));
        someInTheWay();
    }

    private void someInTheWay() {
        ShelfServer server = with(11, true, true);
        exclusive(server, 2, 12);
        it.badState("one of many that are shared", () -> server.lock(0, 11, false, false, 5, 0));
        it.badState("one of many below", () -> server.lock(0, 1, true, true, 5, 0));
        it.due("past all", 2, server.lock(0, 11, true, true, 5, 0));
        server.pass(9);
        it.due("one that has ended", 3, server.lock(0, 11, false, true, 5, 0));
        server.refresh(2, 1, 0);
        server.refresh(0, 3, 0);
        it.due("some that were let go", 4, server.lock(3, 0, false, true, 5, 0));
    }

    private void noFileCanBeMade() {
        of("or a file has to be made, and put() would not be DONE");
        badState("MISSING", Part::rich, x -> x.lock(0, 41, false, false, 5, 0));
        badState("MISSING, below a file", Part::rich, x -> x.lock(0, 31, false, false, 5, 0));
        badState("LOCKED by the parent", () -> with(2, false, false), x -> x.lock(0, 22, false, false, 5, 0));
        badState("LOCKED by the path", Part::rich, x -> x.lock(3, 22, true, false, 5, MOST));
        badState("FULL", Part::fullServer, x -> x.lock(0, 8, false, false, 5, 0));
        it.due("the parent with its token", 1, with(2, false, false).lock(1, 22, false, false, 5, 1));
        it.due("none has to be made in a full server", 0, fullServer().lock(0, 71, false, false, 5, 0));
    }

    // ---- refresh

    private static ShelfServer oneLock() {
        ShelfServer server = tree();
        server.lock(0, 3, false, false, 10, 0);
        server.pass(4);
        return server;
    }

    private void refreshes() {
        of("Lets a lock end so many ticks later than now.");
        ShelfServer server = oneLock();
        server.refresh(0, 0, 20);
        it.due("not as ahead", 0, server.pass(6));
        it.due("not a tick sooner", 0, server.pass(13));
        it.due("it is there", 1, server.covering(3));
        it.due("then", 1, server.pass(1));
        ShelfServer sooner = oneLock();
        sooner.refresh(0, 0, 1);
        it.due("sooner too", 1, sooner.pass(1));
        it.due("it is gone", 0, sooner.covering(3));
        ShelfServer two = tree();
        shared(two, 0, 3);
        shared(two, 0, 3);
        two.refresh(0, 1, 7);
        it.due("that one alone", 1, two.pass(7));
        it.due("the other is there", 1, two.covering(3));
        it.due("when it would have ended", 1, two.pass(43));
    }

    private void refreshArguments() {
        clients(LockSentences::oneLock, (x, client) -> x.refresh(client, 0, 5));
        of("`token`: the token");
        ShelfServer server = tree();
        shared(server, 0, 3);
        shared(server, 1, 3);
        it.due("1 is client 1's", 50, server.refresh(1, 1, 30));
        it.badState("0 is not", () -> server.refresh(1, 0, 30));
        it.due("30 now", 30, server.refresh(1, 1, 30));
        it.due("0 as it was", 50, server.refresh(0, 0, 30));
        of("`ticks`: 0 to 1000; 0 lets it go at once");
        range(0, 1000, LockSentences::oneLock, (x, ticks) -> x.refresh(0, 0, ticks));
        ShelfServer once = oneLock();
        it.due("0", 6, once.refresh(0, 0, 0));
        it.due("at once", 0, once.covering(3));
        it.yes("anybody may change it", once.mayChange(1, 3, 0));
        it.badPlace("there is none any more", () -> once.refresh(0, 0, 5));
        it.due("it does not end once more", 0, once.pass(10));
        it.due("another may be there", 1, once.lock(1, 3, false, false, 5, 0));
        ShelfServer longest = oneLock();
        longest.refresh(0, 0, 1000);
        it.due("1000", 1000, longest.refresh(0, 0, 1000));
        of("Returns how many ticks it had left.");
        it.due("6 of 10", 6, oneLock().refresh(0, 0, 9));
        ShelfServer last = oneLock();
        last.pass(5);
        it.due("1 of 10", 1, last.refresh(0, 0, 9));
        it.due("all of 9", 9, last.refresh(0, 0, 9));
    }

    private void refreshRefused() {
        of("Throws `IndexOutOfBoundsException` if there is no such lock any more");
        for (int token : new int[] {1, 2, 29, 30, 31, 32, 33, 64, MOST, -1, -32, LEAST}) {
            badPlace("there has been no lock " + token, LockSentences::oneLock, x -> x.refresh(0, token, 5));
        }
        badPlace("one that has ended", Part::rich, x -> x.refresh(0, 3, 5));
        badPlace("one that was let go", Part::rich, x -> x.refresh(0, 4, 5));
        ShelfServer server = oneLock();
        server.delete(0, 3, 1);
        it.badPlace("one whose path has gone", () -> server.refresh(0, 0, 5));
        server.lock(0, 3, false, false, 5, 0);
        it.badPlace("though there is another", () -> server.refresh(0, 0, 5));
        badPlace("no such lock in a new server", ShelfServer::new, x -> x.refresh(0, 0, 5));
        of("Throws `IllegalArgumentException` if client or ticks is out of range");
        badArgument("client", LockSentences::oneLock, x -> x.refresh(4, 0, 5));
        badArgument("client below 0", LockSentences::oneLock, x -> x.refresh(-1, 0, 5));
        badArgument("ticks", LockSentences::oneLock, x -> x.refresh(0, 0, 1001));
        badArgument("ticks below 0, of another's", LockSentences::oneLock, x -> x.refresh(1, 0, -1));
        of("Throws `IllegalStateException` if it is of another client");
        for (int client = 1; client <= 3; client++) {
            int one = client;
            badState("client " + one, LockSentences::oneLock, x -> x.refresh(one, 0, 5));
        }
        it.due("its own", 6, oneLock().refresh(0, 0, 5));
    }

    // ---- pass

    private void passes() {
        of("Lets ticks pass.");
        ShelfServer server = oneLock();
        server.pass(2);
        it.due("4 and 2 of 10", 4, server.refresh(0, 0, 1000));
        server.pass(999);
        it.due("999 of 1000", 1, server.refresh(0, 0, 1));
        of("`ticks`: 1 to 1000");
        range(1, 1000, LockSentences::oneLock, ShelfServer::pass);
        of("Returns how many locks end in them.");
        ShelfServer ends = tree();
        for (int ticks : new int[] {5, 5, 6, 7, 1000}) {
            ends.lock(0, 3, true, false, ticks, 0);
        }
        it.due("none in 4", 0, ends.pass(4));
        it.due("two in the fifth", 2, ends.pass(1));
        it.due("two in 995", 2, ends.pass(994));
        it.due("none but the last is left", 16, ends.covering(3));
        it.due("the last", 1, ends.pass(1));
        it.due("none", 0, ends.pass(1000));
        ShelfServer gone = tree();
        shared(gone, 0, 12);
        shared(gone, 0, 3);
        shared(gone, 0, 3);
        gone.refresh(0, 1, 0);
        gone.delete(0, 12, 1);
        it.due("not those that were gone", 1, gone.pass(1000));
        it.due("all of 30", 30, withLocks(30).pass(50));
    }

    private void endOfTime() {
        of("Throws `IllegalArgumentException` if ticks is out of range");
        badArgument("0", LockSentences::oneLock, x -> x.pass(0));
        badArgument("below 0", LockSentences::oneLock, x -> x.pass(-5));
        badArgument("1001", LockSentences::oneLock, x -> x.pass(1001));
        badArgument("the largest int", LockSentences::oneLock, x -> x.pass(MOST));
        of("Throws `IllegalStateException` if the time would be above 1000000");
        it.due("to 1000000", 0, TermsSentences.atTime(999500).pass(500));
        badState("to 1000001", () -> TermsSentences.atTime(999500), x -> x.pass(501));
        badState("far above", () -> TermsSentences.atTime(1000000), x -> x.pass(1000));
        badState("a tick above", () -> TermsSentences.atTime(1000000), x -> x.pass(1));
        ShelfServer server = TermsSentences.atTime(1000000);
        it.due("a lock at the end of time", 0, server.lock(0, 3, false, false, 1000, 0));
        it.due("has its ticks", 1000, server.refresh(0, 0, 1000));
    }

    // ---- covering, mayChange

    private void covering() {
        of("Returns the tokens of all locks that cover a path.");
        ShelfServer server = rich();
        it.due("the path's own", 1, server.covering(112));
        it.due("deep and not deep", 6, server.covering(2));
        it.due("deep alone", 2, server.covering(21));
        it.due("where nothing is", 2, server.covering(2221));
        it.due("beside them", 0, server.covering(111));
        it.due("above them", 0, server.covering(11));
        it.due("those that are gone", 0, server.covering(3));
        pathsWithTop(Part::tree, ShelfServer::covering);
        of("Returns the set.");
        it.due("30 tokens", 0x3fffffff, withLocks(30).covering(3));
        it.due("none", 0, tree().covering(0));
        it.due("the last one alone", 1 << 29, lastOf30().covering(12));
        of("Throws `IllegalArgumentException` if path is out of range");
        badArgument("below 0", Part::rich, x -> x.covering(-2));
        badArgument("five digits", Part::rich, x -> x.covering(22222));
        badArgument("a digit 0", Part::rich, x -> x.covering(20));
    }

    private static ShelfServer lastOf30() {
        ShelfServer server = withLocks(29);
        exclusive(server, 3, 12);
        return server;
    }

    private void mayChange() {
        of("Tells whether a client may change a path with some tokens.");
        it.yes("no lock", rich().mayChange(0, 3, 0));
        it.no("another's lock", rich().mayChange(0, 112, MOST));
        it.no("its own, without the token", rich().mayChange(1, 112, 0));
        it.yes("its own", rich().mayChange(1, 112, 1));
        it.yes("its own among others", rich().mayChange(3, 2, MOST));
        it.no("its own is not deep", rich().mayChange(3, 21, MOST));
        it.yes("its own is deep", rich().mayChange(2, 21, 1 << 1));
        it.yes("its own is deep, where nothing is", rich().mayChange(2, 2999, 1 << 1));
        it.yes("where nothing is, and no lock", rich().mayChange(2, 9999, 0));
        it.yes("the top", rich().mayChange(0, 0, 0));
        it.yes("the last of 30", lastOf30().mayChange(3, 12, 1 << 29));
        it.no("the last of 30 is another's", lastOf30().mayChange(1, 12, MOST));
        clients(Part::rich, (x, client) -> Checks.bit(x.mayChange(client, 3, 0)));
        pathsWithTop(Part::rich, (x, path) -> Checks.bit(x.mayChange(0, path, 0)));
        tokens(Part::rich, (x, tokens) -> Checks.bit(x.mayChange(0, 3, tokens)));
        of("Throws `IllegalArgumentException` if an argument is out of range");
        badArgument("client", Part::rich, x -> Checks.bit(x.mayChange(4, 3, 0)));
        badArgument("path", Part::rich, x -> Checks.bit(x.mayChange(0, 30, 0)));
        badArgument("tokens", Part::rich, x -> Checks.bit(x.mayChange(0, 3, -1)));
    }
}
