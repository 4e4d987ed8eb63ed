/** The sentences of promises 12 to 14: members, memberAt, order. */
final class MemberSentences extends Part {
    MemberSentences(Sentences it) {
        super(it);
    }

    @Override
    void run() {
        promise(12);
        howMany();
        promise(13);
        memberAt();
        noSuchMember();
        promise(14);
        orders();
        parentIsAsked();
        places();
        arguments();
    }

    /** 1 with 14, 12, 19, 11 in this order, of which 12 has 129 and 121. */
    private static ShelfServer row() {
        ShelfServer server = new ShelfServer();
        collections(server, 1);
        files(server, 14);
        collections(server, 12);
        files(server, 19, 129, 121, 11);
        return server;
    }

    private void howMany() {
        of("Returns how many members a collection has.");
        it.due("an empty one", 0, withEmpty().members(4));
        it.due("one", 1, tree().members(2));
        it.due("its own alone", 2, tree().members(1));
        it.due("the top", 3, tree().members(0));
        it.due("nine", 9, fullServer().members(1));
        it.due("the empty top", 0, new ShelfServer().members(0));
        pathsWithTop(Part::tree, ShelfServer::members);
        of("Returns how many; 0 if there is no collection.");
        ShelfServer server = row();
        it.due("four", 4, server.members(1));
        it.due("a file", 0, server.members(14));
        it.due("nothing", 0, server.members(2));
        it.due("nothing in a collection", 0, server.members(13));
        it.due("4 digits", 0, server.members(1299));
        server.delete(0, 1, 0);
        it.due("one that is gone", 0, server.members(1));
        files(server, 1);
        it.due("a file at its path", 0, server.members(1));
        of("Throws `IllegalArgumentException` if path is out of range");
        badArgument("below 0", Part::tree, x -> x.members(-1));
        badArgument("five digits", Part::tree, x -> x.members(11111));
        badArgument("a digit 0", Part::tree, x -> x.members(10));
    }

    private void memberAt() {
        of("Returns a member of a collection.");
        it.due("a collection", 12, row().memberAt(1, 1));
        it.due("a file", 19, row().memberAt(1, 2));
        pathsWithTop(Part::tree, (x, path) -> x.memberAt(path, 0));
        of("`place`: 0 for the first one in the order");
        it.due("the first", 14, row().memberAt(1, 0));
        it.due("the first of the top", 1, row().memberAt(0, 0));
        it.due("the first below", 129, row().memberAt(12, 0));
        of("Returns the path of the member.");
        members(row(), 0, 1);
        members(row(), 1, 14, 12, 19, 11);
        members(row(), 12, 129, 121);
        of("Throws `IllegalArgumentException` if path is out of range");
        badArgument("below 0", Part::tree, x -> x.memberAt(-1, 0));
        badArgument("five digits", Part::tree, x -> x.memberAt(11111, 0));
        badArgument("a digit 0, and no such place", Part::tree, x -> x.memberAt(10, -1));
    }

    private void noSuchMember() {
        of("Throws `IndexOutOfBoundsException` if the collection does not have so many, or place is below 0");
        for (int place : new int[] {4, 5, 60, MOST, -1, -2, LEAST}) {
            badPlace("place " + place, MemberSentences::row, x -> x.memberAt(1, place));
        }
        badPlace("a file", MemberSentences::row, x -> x.memberAt(14, 0));
        badPlace("nothing", MemberSentences::row, x -> x.memberAt(2, 0));
        badPlace("an empty collection", Part::withEmpty, x -> x.memberAt(4, 0));
        badPlace("the empty top", ShelfServer::new, x -> x.memberAt(0, 0));
        badPlace("one that went", MemberSentences::withLess, x -> x.memberAt(1, 3));
    }

    private static ShelfServer withLess() {
        ShelfServer server = row();
        server.delete(0, 14, 0);
        return server;
    }

    private void orders() {
        of("Moves a member in the order of its parent;");
        ShelfServer server = row();
        it.due("a file to the front", DONE, server.order(0, 11, 0, 0));
        members(server, 1, 11, 14, 12, 19);
        it.due("a collection to the end", DONE, server.order(0, 12, 3, 0));
        members(server, 1, 11, 14, 19, 12);
        members(server, 12, 129, 121);
        it.due("its member", DONE, server.order(0, 121, 0, 0));
        members(server, 12, 121, 129);
        members(server, 1, 11, 14, 19, 12);
        it.due("all are there", 7, server.resources());
        it.due("as they were", 14, server.content(14));
        server.keep(19);
        shared(server, 0, 19);
        it.due("one with a version and a lock", DONE, server.order(0, 19, 0, 0));
        it.due("its lock", 1, server.covering(19));
        it.due("its version", 1, server.keep(19));
        ShelfServer full = fullServer();
        it.due("in a full server", DONE, full.order(0, 72, 0, 0));
        members(full, 7, 72, 71);
        members(full, 0, 1, 2, 3, 4, 5, 6, 7);
    }

    private void parentIsAsked() {
        of("the client must be able to change the parent.");
        refused("the parent is locked", LOCKED, MemberSentences::rowLocked, x -> x.order(0, 11, 0, MOST));
        refused("without the token", LOCKED, MemberSentences::rowLocked, x -> x.order(1, 11, 0, MOST - 1));
        it.due("with the token", DONE, rowLocked().order(1, 11, 0, 1));
        it.due("the parent's parent", DONE, rowLocked().order(0, 1, 0, 0));
        it.due("below", DONE, rowLocked().order(0, 121, 0, 0));
        ShelfServer server = row();
        exclusive(server, 1, 11);
        it.due("the path is not asked for", DONE, server.order(0, 11, 0, 0));
        members(server, 1, 11, 14, 12, 19);
        ShelfServer top = tree();
        exclusive(top, 1, 0);
        it.due("the top is locked", LOCKED, top.order(0, 3, 0, 0));
        refused("also to its own place", LOCKED, MemberSentences::rowLocked, x -> x.order(0, 14, 0, 0));
    }

    private static ShelfServer rowLocked() {
        ShelfServer server = row();
        exclusive(server, 1, 1);
        return server;
    }

    private void places() {
        of("`place`: 0 or more: how many other members stand ahead of it then; all, if there are fewer");
        range(0, MOST, MemberSentences::row, (x, place) -> x.order(0, 12, place, 0));
        orderedTo(14, 0, 14, 12, 19, 11);
        orderedTo(14, 1, 12, 14, 19, 11);
        orderedTo(14, 2, 12, 19, 14, 11);
        orderedTo(14, 3, 12, 19, 11, 14);
        orderedTo(14, 4, 12, 19, 11, 14);
        orderedTo(14, MOST, 12, 19, 11, 14);
        orderedTo(19, 0, 19, 14, 12, 11);
        orderedTo(19, 1, 14, 19, 12, 11);
        orderedTo(19, 2, 14, 12, 19, 11);
        orderedTo(19, 3, 14, 12, 11, 19);
        orderedTo(19, 60, 14, 12, 11, 19);
        orderedTo(11, 0, 11, 14, 12, 19);
        orderedTo(11, 2, 14, 12, 11, 19);
        orderedTo(11, 3, 14, 12, 19, 11);
        orderedTo(11, 5, 14, 12, 19, 11);
        ShelfServer top = tree();
        it.due("to the front of the top", DONE, top.order(0, 3, 0, 0));
        members(top, 0, 3, 1, 2);
        it.due("to the middle of the top", DONE, top.order(0, 3, 1, 0));
        members(top, 0, 1, 3, 2);
        it.due("to the end of the top", DONE, top.order(0, 1, 9, 0));
        members(top, 0, 3, 2, 1);
        members(top, 1, 11, 12);
        ShelfServer alone = tree();
        it.due("one that is alone", DONE, alone.order(0, 21, 1, 0));
        members(alone, 2, 21);
    }

    private void orderedTo(int path, int place, int... want) {
        ShelfServer server = row();
        it.due(path + " to " + place, DONE, server.order(2, path, place, 0));
        members(server, 1, want);
        members(server, 12, 129, 121);
    }

    private void arguments() {
        clients(Part::tree, (x, client) -> x.order(client, 3, 0, 0));
        pathsBelowTop(Part::tree, (x, path) -> x.order(0, path, 0, 0));
        tokens(Part::tree, (x, tokens) -> x.order(0, 3, 0, tokens));
        of("Returns DONE, MISSING or LOCKED.");
        it.due("DONE", DONE, rich().order(0, 3, 0, 0));
        refused("MISSING", MISSING, Part::rich, x -> x.order(0, 4, 0, 0));
        refused("MISSING, no parent either", MISSING, Part::rich, x -> x.order(0, 411, 0, 0));
        refused("MISSING, below a file", MISSING, Part::rich, x -> x.order(0, 31, 0, 0));
        refused("LOCKED", LOCKED, Part::rich, x -> x.order(1, 21, 0, MOST));
        of("Throws `IllegalArgumentException` if an argument is out of range");
        badArgument("client, else MISSING", Part::rich, x -> x.order(4, 4, 0, 0));
        badArgument("path", Part::rich, x -> x.order(0, 30, 0, 0));
        badArgument("place", Part::rich, x -> x.order(0, 3, -1, 0));
        badArgument("place, else MISSING", Part::rich, x -> x.order(0, 4, LEAST, 0));
        badArgument("tokens, else LOCKED", Part::rich, x -> x.order(0, 21, 0, -1));
    }
}
