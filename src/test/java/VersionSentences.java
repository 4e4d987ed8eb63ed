/** The sentences of promises 20 and 21: keep and restore. */
final class VersionSentences extends Part {
    VersionSentences(Sentences it) {
        super(it);
    }

    @Override
    void run() {
        promise(20);
        keeps();
        numbers();
        keepRefused();
        promise(21);
        restores();
        arguments();
        outcomes();
    }

    /** The file 3 with so many versions: 700, 701 and so on; its content is 5 then. */
    private static ShelfServer kept(int versions) {
        ShelfServer server = tree();
        for (int version = 0; version < versions; version++) {
            server.put(0, 3, 700 + version, NONE, 0);
            server.keep(3);
        }
        server.put(0, 3, 5, NONE, 0);
        return server;
    }

    private void keeps() {
        of("Keeps the content of a file as a version.");
        ShelfServer server = tree();
        server.put(0, 3, 999, NONE, 0);
        it.due("keep 999", 0, server.keep(3));
        it.due("it is still the content", 999, server.content(3));
        server.put(0, 3, 0, NONE, 0);
        it.due("keep 0", 1, server.keep(3));
        server.put(0, 3, 8, NONE, 0);
        it.due("back to 999", DONE, server.restore(0, 3, 0, 0));
        it.due("999", 999, server.content(3));
        it.due("back to 0", DONE, server.restore(0, 3, 1, 0));
        it.due("0", 0, server.content(3));
        it.due("no resource is made", 8, server.resources());
        exclusive(server, 1, 3);
        it.due("a locked one", 2, server.keep(3));
        pathsWithTop(Part::tree, ShelfServer::keep);
    }

    private void numbers() {
        of("Returns the number of the version, from 0 on for each file.");
        ShelfServer server = tree();
        for (int number = 0; number < 10; number++) {
            it.due("of 3", number, server.keep(3));
        }
        it.due("of 12", 0, server.keep(12));
        it.due("of 12 again", 1, server.keep(12));
        it.due("of 111", 0, server.keep(111));
        server.delete(0, 3, 0);
        files(server, 3);
        it.due("of another one at 3", 0, server.keep(3));
        server.restore(0, 12, 0, 0);
        it.due("of 12 after restore", 2, server.keep(12));
        server.copy(0, 12, 4, false, 0);
        it.due("of a copy", 0, server.keep(4));
        server.move(0, 12, 5, false, 0);
        it.due("of one that was moved", 3, server.keep(5));
    }

    private void keepRefused() {
        of("Throws `IllegalArgumentException` if path is out of range");
        badArgument("below 0", Part::rich, x -> x.keep(-3));
        badArgument("five digits", Part::rich, x -> x.keep(33333));
        badArgument("a digit 0", Part::rich, x -> x.keep(30));
        of("Throws `IllegalStateException` if there is no file,");
        badState("nothing", Part::rich, x -> x.keep(4));
        badState("a collection", Part::rich, x -> x.keep(1));
        badState("the top", Part::rich, x -> x.keep(0));
        badState("below a file", Part::rich, x -> x.keep(31));
        of("or it has 10 versions");
        it.due("it has 9", 9, kept(9).keep(3));
        badState("it has 10", () -> kept(10), x -> x.keep(3));
        ShelfServer server = kept(10);
        server.restore(0, 3, 0, 0);
        it.badState("it has 10 after restore", () -> server.keep(3));
        it.due("another one has none", 0, server.keep(12));
        server.move(0, 3, 4, false, 0);
        it.badState("it has 10 at another path", () -> server.keep(4));
    }

    private void restores() {
        of("Writes a kept version of a file back to it.");
        ShelfServer server = kept(10);
        for (int version = 9; version >= 0; version--) {
            it.due("restore " + version, DONE, server.restore(2, 3, version, 0));
            it.due("the content", 700 + version, server.content(3));
        }
        it.due("again", DONE, server.restore(2, 3, 9, 0));
        it.due("the content again", 709, server.content(3));
        it.due("another file is as it was", 12, server.content(12));
        members(server, 0, 1, 2, 3);
        it.due("no resource is made", 8, server.resources());
        it.due("in a full server", MISSING, fullServer().restore(0, 72, 0, 0));
    }

    private void arguments() {
        clients(Part::rich, (x, client) -> x.restore(client, 3, 0, 0));
        pathsWithTop(Part::rich, (x, path) -> x.restore(0, path, 0, 0));
        of("`version`: 0 or more");
        range(0, MOST, Part::rich, (x, version) -> x.restore(0, 3, version, 0));
        it.due("0", DONE, rich().restore(0, 3, 0, 0));
        it.due("the largest int", MISSING, rich().restore(0, 3, MOST, 0));
        tokens(Part::rich, (x, tokens) -> x.restore(0, 3, 0, tokens));
        of("Throws `IllegalArgumentException` if an argument is out of range");
        badArgument("client, else MISSING", Part::rich, x -> x.restore(4, 4, 0, 0));
        badArgument("path", Part::rich, x -> x.restore(0, 30, 0, 0));
        badArgument("version, else MISSING", Part::rich, x -> x.restore(0, 4, -1, 0));
        badArgument("version", Part::rich, x -> x.restore(0, 3, LEAST, 0));
        badArgument("tokens, else LOCKED", Part::rich, x -> x.restore(0, 112, 0, -1));
    }

    private void outcomes() {
        of("Returns DONE;");
        it.due("the last one", DONE, rich().restore(0, 3, 1, 0));
        of("MISSING if there is no file,");
        refused("nothing", MISSING, Part::rich, x -> x.restore(0, 4, 0, 0));
        refused("a collection", MISSING, Part::rich, x -> x.restore(0, 1, 0, 0));
        refused("the top", MISSING, Part::rich, x -> x.restore(0, 0, 0, 0));
        refused("below a file", MISSING, Part::rich, x -> x.restore(0, 31, 0, 0));
        of("or it does not have that version;");
        refused("one too many", MISSING, Part::rich, x -> x.restore(0, 3, 2, 0));
        refused("none at all", MISSING, Part::rich, x -> x.restore(0, 12, 0, 0));
        refused("an eleventh", MISSING, () -> kept(10), x -> x.restore(0, 3, 10, 0));
        ShelfServer anew = kept(10);
        anew.delete(0, 3, 0);
        files(anew, 3);
        it.due("the one that was there had it", MISSING, anew.restore(0, 3, 0, 0));
        of("LOCKED.");
        refused("another's lock", LOCKED, Part::rich, x -> x.restore(0, 112, 0, MOST));
        refused("without the token", LOCKED, Part::rich, x -> x.restore(1, 112, 0, MOST - 1));
        it.due("with the token", DONE, rich().restore(1, 112, 0, 1));
        ShelfServer parent = rich();
        exclusive(parent, 1, 0);
        it.due("the parent is not asked for", DONE, parent.restore(0, 3, 0, 0));
    }
}
