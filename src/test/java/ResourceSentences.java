/** The sentences of promises 1 to 3 and 9 to 11: a new object, makeCollection, put, kindOf, content, resources. */
final class ResourceSentences extends Part {
    ResourceSentences(Sentences it) {
        super(it);
    }

    @Override
    void run() {
        newObject();
        collections();
        collectionOutcomes();
        collectionArguments();
        files();
        filesAreAllowed();
        fileRanges();
        fileOutcomes();
        fileConditions();
        fileArguments();
        kinds();
        contents();
        count();
    }

    private void newObject() {
        promise(1);
        of("Begins with the top alone, at the time 0.");
        ShelfServer server = new ShelfServer();
        it.due("resources", 0, server.resources());
        it.due("the top", COLLECTION, server.kindOf(0));
        members(server, 0);
        for (int path = 1; path <= 9; path++) {
            it.due("nothing at " + path, NONE, server.kindOf(path));
        }
        it.due("failures", 0, server.failures());
        it.badPlace("no failure", () -> server.failureAt(0));
        it.due("no locks at the top", 0, server.covering(0));
        it.due("no locks at 9999", 0, server.covering(9999));
        it.badPlace("no lock", () -> server.refresh(0, 0, 1));
        it.due("the first lock", 0, server.lock(0, 0, true, false, 1, 0));
        it.due("1000000 ticks fit", 0, TermsSentences.atTime(999999).pass(1));
        it.badState("1000001 do not", () -> TermsSentences.atTime(999999).pass(2));
        ShelfServer other = new ShelfServer();
        files(other, 1);
        exclusive(other, 0, 1);
        it.due("objects share no resources", 0, server.resources());
        it.due("objects share no locks", 0, server.covering(1));
    }

    private void collections() {
        promise(2);
        of("Makes a collection.");
        ShelfServer server = new ShelfServer();
        it.due("make 4", DONE, server.makeCollection(2, 4, 0));
        it.due("its kind", COLLECTION, server.kindOf(4));
        it.due("its content", NONE, server.content(4));
        it.due("one resource", 1, server.resources());
        members(server, 0, 4);
        members(server, 4);
        it.due("make 49", DONE, server.makeCollection(2, 49, 0));
        it.due("make 491", DONE, server.makeCollection(2, 491, 0));
        it.due("make 4911", DONE, server.makeCollection(2, 4911, 0));
        members(server, 491, 4911);
        it.due("four resources", 4, server.resources());
    }

    private void collectionArguments() {
        clients(Part::tree, (x, client) -> x.makeCollection(client, 4, 0));
        pathsBelowTop(Part::tree, (x, path) -> x.makeCollection(0, path, 0));
        tokens(Part::tree, (x, tokens) -> x.makeCollection(0, 4, tokens));
        of("Throws `IllegalArgumentException` if client, path or tokens is out of range");
        badArgument("client, else MISSING", Part::rich, x -> x.makeCollection(4, 41, 0));
        badArgument("path, below nothing", Part::rich, x -> x.makeCollection(0, 410, 0));
        badArgument("path, of five digits", Part::rich, x -> x.makeCollection(0, 11119, 0));
        badArgument("tokens, else EXISTS", Part::rich, x -> x.makeCollection(0, 1, -1));
        badArgument("tokens, else LOCKED", Part::rich, x -> x.makeCollection(0, 22, LEAST));
        badArgument("client, else FULL", Part::fullServer, x -> x.makeCollection(-1, 8, 0));
    }

    private void collectionOutcomes() {
        of("Returns DONE, MISSING, EXISTS, LOCKED or FULL.");
        it.due("a free path", DONE, rich().makeCollection(0, 13, 0));
        refused("no parent", MISSING, Part::rich, x -> x.makeCollection(0, 91, 0));
        refused("no parent, 4 digits", MISSING, Part::rich, x -> x.makeCollection(0, 1311, 0));
        refused("a file as parent", MISSING, Part::rich, x -> x.makeCollection(0, 1111, 0));
        refused("a collection is there", EXISTS, Part::rich, x -> x.makeCollection(0, 11, 0));
        refused("a file is there", EXISTS, Part::rich, x -> x.makeCollection(0, 3, 0));
        refused("the parent is locked", LOCKED, Part::rich, x -> x.makeCollection(1, 22, MOST));
        refused("the parent is locked, without the token", LOCKED, Part::rich, x -> x.makeCollection(2, 22, 0));
        refused("the path alone is locked", LOCKED, Part::rich, x -> x.makeCollection(3, 22, MOST));
        it.due("with the token", DONE, rich().makeCollection(2, 22, 1 << 1));
        refused("full", FULL, Part::fullServer, x -> x.makeCollection(0, 79, 0));
    }

    private void files() {
        promise(3);
        of("Writes a file, or makes one;");
        ShelfServer server = new ShelfServer();
        it.due("make one", DONE, server.put(1, 7, 5, NONE, 0));
        it.due("its kind", FILE, server.kindOf(7));
        it.due("its content", 5, server.content(7));
        it.due("one resource", 1, server.resources());
        it.due("make another", DONE, server.put(1, 6, 4, NONE, 0));
        it.due("keep a version", 0, server.keep(7));
        it.due("write one", DONE, server.put(2, 7, 6, NONE, 0));
        it.due("its content now", 6, server.content(7));
        it.due("no more resources", 2, server.resources());
        members(server, 0, 7, 6);
        it.due("its version is there", DONE, server.restore(0, 7, 0, 0));
        it.due("the other is as it was", 4, server.content(6));
        it.due("write what is there already", DONE, server.put(0, 6, 4, NONE, 0));
        it.due("in a full server", DONE, fullServer().put(0, 11, 9, NONE, 0));
    }

    private void filesAreAllowed() {
        of("the client must be able to change the path, and for a new one the parent.");
        refused("the path", LOCKED, Part::rich, x -> x.put(0, 112, 1, NONE, MOST));
        refused("the path, without its token", LOCKED, Part::rich, x -> x.put(1, 112, 1, NONE, 1 << 1));
        it.due("the path, with its token", DONE, rich().put(1, 112, 1, NONE, 1));
        ShelfServer server = tree();
        exclusive(server, 1, 1);
        it.due("an old one, the parent is locked", DONE, server.put(0, 12, 900, NONE, 0));
        it.due("a new one, the parent is locked", LOCKED, server.put(0, 13, 900, NONE, 0));
        it.due("a new one, with the parent's token", DONE, server.put(1, 13, 900, NONE, 1));
        it.due("a new one, below that", DONE, server.put(0, 113, 900, NONE, 0));
        refused("a new one, the path is locked, not the parent", LOCKED, Part::rich,
            x -> x.put(3, 22, 0, NONE, MOST));
        ShelfServer top = tree();
        exclusive(top, 1, 0);
        it.due("a new one in the locked top", LOCKED, top.put(0, 4, 0, NONE, 0));
        it.due("an old one in the locked top", DONE, top.put(0, 3, 0, NONE, 0));
    }

    private void fileRanges() {
        clients(Part::tree, (x, client) -> x.put(client, 4, 0, NONE, 0));
        pathsBelowTop(Part::tree, (x, path) -> x.put(0, path, 0, NONE, 0));
        of("`content`: 0 to 999");
        range(0, 999, Part::tree, (x, content) -> x.put(0, 3, content, NONE, 0));
        ShelfServer server = tree();
        server.put(0, 3, 999, NONE, 0);
        it.due("999 is there", 999, server.content(3));
        server.put(0, 3, 0, NONE, 0);
        it.due("0 is there", 0, server.content(3));
        tokens(Part::tree, (x, tokens) -> x.put(0, 4, 0, NONE, tokens));
    }

    private void fileConditions() {
        of("`expected`: the content that the file must have, 0 to 999; or NONE for no condition");
        range(NONE, 999, Part::tree, (x, expected) -> x.put(0, 3, 0, expected, 0));
        ShelfServer server = tree();
        it.due("NONE at a new one", DONE, server.put(0, 4, 0, NONE, 0));
        it.due("0 holds", DONE, server.put(0, 4, 999, 0, 0));
        it.due("999 holds", DONE, server.put(0, 4, 500, 999, 0));
        it.due("NONE at an old one", DONE, server.put(0, 4, 7, NONE, 0));
        it.due("it is written", 7, server.content(4));
        of("CONDITION if expected is not NONE, and there is no file, or it has another content;");
        refused("no file, 0", CONDITION, Part::tree, x -> x.put(0, 4, 7, 0, 0));
        refused("no file, 999", CONDITION, Part::tree, x -> x.put(0, 4, 7, 999, 0));
        refused("one less", CONDITION, Part::tree, x -> x.put(0, 12, 7, 11, 0));
        refused("one more", CONDITION, Part::tree, x -> x.put(0, 12, 7, 13, 0));
        refused("0", CONDITION, Part::tree, x -> x.put(0, 12, 7, 0, 0));
        refused("what is to be written", CONDITION, Part::tree, x -> x.put(0, 12, 7, 7, 0));
    }

    private void fileOutcomes() {
        of("Returns DONE;");
        it.due("a new one", DONE, rich().put(0, 13, 0, NONE, 0));
        it.due("an old one", DONE, rich().put(0, 12, 0, 12, 0));
        of("MISSING if the parent is no collection;");
        refused("nothing", MISSING, Part::rich, x -> x.put(0, 91, 0, NONE, 0));
        refused("nothing above that either", MISSING, Part::rich, x -> x.put(0, 9111, 0, NONE, 0));
        refused("a file", MISSING, Part::rich, x -> x.put(0, 31, 0, NONE, 0));
        of("EXISTS if a collection is there;");
        refused("an empty one", EXISTS, Part::withEmpty, x -> x.put(0, 4, 0, NONE, 0));
        refused("one with members", EXISTS, Part::rich, x -> x.put(0, 1, 0, NONE, 0));
        of("LOCKED or FULL.");
        refused("LOCKED", LOCKED, Part::rich, x -> x.put(2, 112, 0, NONE, MOST));
        refused("FULL", FULL, Part::fullServer, x -> x.put(0, 79, 0, NONE, 0));
    }

    private void fileArguments() {
        of("Throws `IllegalArgumentException` if an argument is out of range");
        badArgument("client, else MISSING", Part::rich, x -> x.put(4, 91, 0, NONE, 0));
        badArgument("path, below nothing", Part::rich, x -> x.put(0, 901, 0, NONE, 0));
        badArgument("content, else EXISTS", Part::rich, x -> x.put(0, 1, 1000, NONE, 0));
        badArgument("expected, else CONDITION", Part::rich, x -> x.put(0, 4, 0, 1000, 0));
        badArgument("tokens, else LOCKED", Part::rich, x -> x.put(0, 112, 0, NONE, -1));
        badArgument("content, else FULL", Part::fullServer, x -> x.put(0, 79, -1, NONE, 0));
        badArgument("expected, else DONE", Part::rich, x -> x.put(0, 12, 0, -2, 0));
    }

    private void kinds() {
        promise(9);
        of("Returns what is at a path.");
        it.due("a file", FILE, tree().kindOf(111));
        it.due("a collection", COLLECTION, tree().kindOf(11));
        pathsWithTop(Part::tree, ShelfServer::kindOf);
        of("Returns FILE or COLLECTION; NONE for nothing.");
        ShelfServer server = new ShelfServer();
        it.due("ahead of it", NONE, server.kindOf(9));
        collections(server, 9);
        it.due("a collection", COLLECTION, server.kindOf(9));
        it.due("below it", NONE, server.kindOf(99));
        server.delete(0, 9, 0);
        it.due("after it", NONE, server.kindOf(9));
        files(server, 9);
        it.due("a file", FILE, server.kindOf(9));
        it.due("the top", COLLECTION, server.kindOf(0));
        of("Throws `IllegalArgumentException` if path is out of range");
        badArgument("below 0", Part::tree, x -> x.kindOf(-1));
        badArgument("five digits", Part::tree, x -> x.kindOf(11111));
        badArgument("a digit 0", Part::tree, x -> x.kindOf(110));
    }

    private void contents() {
        promise(10);
        of("Returns the content of a file.");
        it.due("111", 111, tree().content(111));
        it.due("3", 3, tree().content(3));
        pathsWithTop(Part::tree, ShelfServer::content);
        of("Returns the content; NONE if there is no file.");
        ShelfServer server = new ShelfServer();
        it.due("nothing", NONE, server.content(8));
        it.due("the top", NONE, server.content(0));
        server.put(0, 8, 0, NONE, 0);
        it.due("the content 0", 0, server.content(8));
        it.due("below a file", NONE, server.content(88));
        server.delete(0, 8, 0);
        it.due("a file that is gone", NONE, server.content(8));
        collections(server, 8);
        it.due("a collection", NONE, server.content(8));
        of("Throws `IllegalArgumentException` if path is out of range");
        badArgument("below 0", Part::tree, x -> x.content(-3));
        badArgument("five digits", Part::tree, x -> x.content(33333));
        badArgument("a digit 0", Part::tree, x -> x.content(30));
    }

    private void count() {
        promise(11);
        of("Returns how many resources there are, beside the top.");
        it.due("none", 0, new ShelfServer().resources());
        it.due("collections and files", 8, tree().resources());
        it.due("all that fit", 60, fullServer().resources());
        ShelfServer server = tree();
        server.lock(0, 4, true, false, 5, 0);
        it.due("one made by a lock", 9, server.resources());
        server.copy(0, 1, 5, false, 0);
        it.due("five by a copy", 14, server.resources());
        server.move(0, 5, 2, true, 0);
        it.due("two less by a move over them", 12, server.resources());
        exclusive(server, 1, 111);
        server.delete(0, 1, 0);
        it.due("two less by a delete in part", 10, server.resources());
        server.delete(0, 2, 0);
        it.due("five less by a delete", 5, server.resources());
    }
}
