/** The sentences of promises 7 and 8: copy and move. */
final class CopyMoveSentences extends Part {
    CopyMoveSentences(Sentences it) {
        super(it);
    }

    @Override
    void run() {
        promise(7);
        copies();
        copiesWhereOneIsMade();
        deletesAhead();
        deletedAheadIsRoom();
        allOfTheTarget();
        arguments((x, client) -> x.copy(client, 3, 4, false, 0), (x, from) -> x.copy(0, from, 8, false, 0),
            (x, to) -> x.copy(0, 8, to, false, 0), (x, tokens) -> x.copy(0, 3, 4, false, tokens));
        targets(true);
        overwrite(true);
        copyIsMissing();
        copyIsTooLong();
        copyOutcomes();
        badTargets(true);
        promise(8);
        moves();
        likeCopy();
        takesVersions();
        fromGoes();
        allOfTheSource();
        arguments((x, client) -> x.move(client, 3, 4, false, 0), (x, from) -> x.move(0, from, 8, false, 0),
            (x, to) -> x.move(0, 8, to, false, 0), (x, tokens) -> x.move(0, 3, 4, false, tokens));
        targets(false);
        overwrite(false);
        moveOutcomes();
        neverFull();
        badTargets(false);
    }

    private static int ask(boolean isCopy, ShelfServer x, int from, int to, boolean overwrite) {
        return isCopy ? x.copy(0, from, to, overwrite, 0) : x.move(0, from, to, overwrite, 0);
    }

    private static int ask(boolean isCopy, ShelfServer x, int from, int to) {
        return ask(isCopy, x, from, to, true);
    }

    /** 1 with 13 (132 and 131) and 12; 2 with 21; 3. */
    private static ShelfServer ordered() {
        ShelfServer server = new ShelfServer();
        collections(server, 1, 13);
        files(server, 132, 131, 12);
        collections(server, 2);
        files(server, 21, 3);
        return server;
    }

    /** Whether the tree of 1 of an ordered server is at a path. */
    private void treeAt(ShelfServer server, int path) {
        it.due("kind of " + path, COLLECTION, server.kindOf(path));
        members(server, path, path * 10 + 3, path * 10 + 2);
        members(server, path * 10 + 3, path * 100 + 32, path * 100 + 31);
        it.due("a content at " + path, 12, server.content(path * 10 + 2));
        it.due("the first content below " + path, 132, server.content(path * 100 + 32));
        it.due("the second content below " + path, 131, server.content(path * 100 + 31));
    }

    // ---- copy

    private void copies() {
        of("Copies a resource with all below it to another path,");
        ShelfServer server = ordered();
        it.due("a tree", DONE, server.copy(0, 1, 22, false, 0));
        treeAt(server, 22);
        treeAt(server, 1);
        it.due("resources", 13, server.resources());
        it.due("a file", DONE, server.copy(0, 3, 23, false, 0));
        it.due("its content", 3, server.content(23));
        server.put(0, 23, 5, NONE, 0);
        server.put(0, 131, 6, NONE, 0);
        it.due("3 is as it was", 3, server.content(3));
        it.due("the copy of 131 is as it was", 131, server.content(2231));
        it.due("an empty collection", DONE, withEmpty().copy(0, 4, 5, false, 0));
        ShelfServer ordered = ordered();
        ordered.order(0, 13, 1, 0);
        ordered.order(0, 131, 0, 0);
        it.due("after order()", DONE, ordered.copy(0, 1, 4, false, 0));
        members(ordered, 4, 42, 43);
        members(ordered, 43, 431, 432);
        ShelfServer kept = rich();
        it.due("a file with versions and locks", DONE, kept.copy(0, 112, 4, false, 0));
        it.due("no version", MISSING, kept.restore(0, 4, 0, 0));
        it.due("no lock", 0, kept.covering(4));
    }

    private void copiesWhereOneIsMade() {
        of("where a resource is made.");
        ShelfServer server = ordered();
        it.due("beside from", DONE, server.copy(0, 13, 11, false, 0));
        members(server, 1, 13, 12, 11);
        it.due("over the first member", DONE, server.copy(0, 3, 13, true, 0));
        members(server, 1, 12, 11, 13);
        refused("no parent", MISSING, Part::rich, x -> x.copy(0, 3, 41, false, 0));
        refused("a file as parent", MISSING, Part::rich, x -> x.copy(0, 3, 121, true, 0));
        refused("the parent may not be changed", LOCKED, Part::rich, x -> x.copy(0, 3, 22, false, MOST));
        refused("the path may not be changed", LOCKED, Part::rich, x -> x.copy(3, 3, 22, false, MOST));
        refused("the parent of what is overwritten", LOCKED, Part::parentLocked,
            x -> x.copy(0, 3, 111, true, MOST));
        it.due("with the token", DONE, rich().copy(2, 3, 22, false, 1 << 1));
    }

    private void deletesAhead() {
        of("What is there is deleted ahead of that, if it may be overwritten:");
        ShelfServer server = rich();
        it.due("a file over a tree", DONE, server.copy(1, 3, 1, true, 1));
        it.due("the file", 10, server.content(1));
        for (int path : new int[] {11, 12, 111, 112}) {
            it.due("gone from " + path, NONE, server.kindOf(path));
        }
        it.due("their locks go", 0, server.covering(112));
        it.badPlace("and can't be refreshed", () -> server.refresh(1, 0, 5));
        members(server, 0, 3, 2, 1);
        ShelfServer other = ordered();
        other.keep(3);
        it.due("a tree over a file", DONE, other.copy(0, 1, 3, true, 0));
        treeAt(other, 3);
        it.due("a file over the tree", DONE, other.copy(0, 21, 3, true, 0));
        it.due("the versions of what was there are gone", 0, other.keep(3));
        it.due("a tree over a tree", DONE, other.copy(0, 13, 2, true, 0));
        members(other, 2, 22, 21);
        it.due("content of the copy", 131, other.content(21));
        it.due("failures are those of delete()", 1, rich().failures());
        ShelfServer failed = rich();
        failed.copy(0, 12, 3, true, 0);
        it.due("also after a copy", 1, failed.failures());
    }

    private void deletedAheadIsRoom() {
        it.due("ten over ten", DONE, fullServer().copy(0, 1, 2, true, 0));
        it.due("one over one", DONE, fullServer().copy(0, 11, 72, true, 0));
        it.due("seven over ten", DONE, fullServer().copy(0, 6, 1, true, 0));
        refused("seven over three", FULL, Part::fullServer, x -> x.copy(0, 6, 7, true, 0));
        ShelfServer server = fullServer();
        server.delete(0, 11, 0);
        server.delete(0, 12, 0);
        server.delete(0, 13, 0);
        it.due("seven over three and three that are free: one too many", FULL, server.copy(0, 6, 7, true, 0));
        server.delete(0, 14, 0);
        it.due("seven over three and four that are free", DONE, server.copy(0, 6, 7, true, 0));
        it.due("full", 60, server.resources());
    }

    private void allOfTheTarget() {
        of("then the client must be able to change all of it.");
        refused("the path itself", LOCKED, Part::rich, x -> x.copy(0, 3, 112, true, MOST));
        refused("below it", LOCKED, Part::rich, x -> x.copy(0, 3, 11, true, MOST));
        refused("far below it", LOCKED, Part::rich, x -> x.copy(0, 3, 1, true, MOST));
        refused("far below it, without the token", LOCKED, Part::rich, x -> x.copy(1, 3, 1, true, 1 << 1));
        it.due("far below it, with the token", DONE, rich().copy(1, 3, 1, true, 1));
        ShelfServer server = tree();
        sharedDeep(server, 1, 2);
        shared(server, 0, 2);
        it.due("the path, but not what is below", LOCKED, server.copy(0, 3, 2, true, MOST));
        it.due("both", DONE, server.copy(1, 3, 2, true, MOST));
        ShelfServer from = tree();
        exclusiveDeep(from, 1, 1);
        it.due("what is copied need not be changed", DONE, from.copy(0, 1, 2, true, 0));
    }

    private void copyIsMissing() {
        of("Returns DONE; MISSING if there is nothing at the path from,");
        refused("nothing in the top", MISSING, Part::rich, x -> x.copy(0, 4, 5, true, 0));
        refused("nothing in a collection", MISSING, Part::rich, x -> x.copy(0, 113, 5, true, 0));
        refused("nothing below a file", MISSING, Part::rich, x -> x.copy(0, 31, 5, true, 0));
        refused("nothing at both", MISSING, Part::tree, x -> x.copy(0, 4, 13, false, 0));
    }

    /** 9, 99 and 999 in each other; 1 with 11, that has 119; and 2. */
    private static ShelfServer high() {
        ShelfServer server = new ShelfServer();
        collections(server, 9, 99, 999, 1, 11, 2);
        files(server, 119);
        return server;
    }

    private void copyIsTooLong() {
        of("or something below it would have a path of more than 4 digits;");
        refused("119 would be 99919", MISSING, CopyMoveSentences::high, x -> x.copy(0, 1, 999, true, 0));
        refused("119 would be 99819", MISSING, CopyMoveSentences::high, x -> x.copy(0, 1, 998, false, 0));
        refused("11 would be 99911", MISSING, CopyMoveSentences::high, x -> x.copy(0, 1, 9991, false, 0));
        refused("119 would be 99919, of 11", MISSING, CopyMoveSentences::high, x -> x.copy(0, 11, 9991, false, 0));
        it.due("11 with 119 at 998", DONE, high().copy(0, 11, 998, false, 0));
        ShelfServer server = high();
        it.due("1 with all at 98", DONE, server.copy(0, 1, 98, false, 0));
        it.due("119 is 9819 now", 119, server.content(9819));
        it.due("119 alone at 9999", DONE, server.copy(0, 119, 9999, false, 0));
        it.due("it is there", 119, server.content(9999));
        it.due("an empty collection at 9991", DONE, server.copy(0, 2, 9991, false, 0));
        it.due("a shorter path", DONE, server.copy(0, 9999, 3, false, 0));
    }

    private void copyOutcomes() {
        of("EXISTS, LOCKED or FULL.");
        refused("EXISTS", EXISTS, Part::rich, x -> x.copy(0, 3, 12, false, 0));
        refused("LOCKED", LOCKED, Part::rich, x -> x.copy(0, 3, 2, true, 0));
        refused("FULL by one", FULL, Part::fullServer, x -> x.copy(0, 72, 73, false, 0));
        refused("FULL by seven", FULL, Part::fullServer, x -> x.copy(0, 6, 8, false, 0));
        ShelfServer server = fullServer();
        server.delete(0, 7, 0);
        it.due("three are free, for ten", FULL, server.copy(0, 1, 7, false, 0));
        it.due("three are free, for one", DONE, server.copy(0, 11, 7, false, 0));
    }

    // ---- move

    private void moves() {
        of("Moves a resource with all below it:");
        ShelfServer server = ordered();
        it.due("a tree", DONE, server.move(0, 1, 22, false, 0));
        treeAt(server, 22);
        members(server, 0, 2, 3);
        it.due("as many as ahead", 8, server.resources());
        it.due("a file", DONE, server.move(0, 3, 4, false, 0));
        it.due("its content", 3, server.content(4));
        it.due("it is not at its old path", NONE, server.kindOf(3));
        it.due("up to the top", DONE, server.move(0, 22, 1, false, 0));
        treeAt(server, 1);
        members(server, 2, 21);
        it.due("an empty collection", DONE, withEmpty().move(0, 4, 5, false, 0));
    }

    private void likeCopy() {
        of("like copy(),");
        ShelfServer server = ordered();
        it.due("it is the last member", DONE, server.move(0, 13, 11, false, 0));
        members(server, 1, 12, 11);
        members(server, 11, 112, 111);
        it.due("over the first member", DONE, server.move(0, 3, 12, true, 0));
        members(server, 1, 11, 12);
        refused("no parent", MISSING, Part::rich, x -> x.move(0, 3, 41, false, 0));
        refused("a file as parent", MISSING, Part::rich, x -> x.move(0, 3, 121, true, 0));
        refused("the parent of to", LOCKED, Part::parentLocked, x -> x.move(0, 3, 111, true, MOST));
        refused("to itself", LOCKED, Part::rich, x -> x.move(3, 3, 22, false, MOST));
        refused("below to", LOCKED, Part::rich, x -> x.move(0, 3, 1, true, MOST));
        it.due("below to, with the token", DONE, rich().move(1, 3, 1, true, 1));
        ShelfServer over = rich();
        it.due("over a tree", DONE, over.move(1, 3, 1, true, 1));
        members(over, 0, 2, 1);
        it.due("what was there is gone", NONE, over.kindOf(112));
        it.due("its locks are gone", 0, over.covering(112));
        it.due("the failures are those of delete()", 1, over.failures());
        ShelfServer ordered = ordered();
        ordered.order(0, 131, 0, 0);
        ordered.order(0, 12, 0, 0);
        it.due("after order()", DONE, ordered.move(0, 1, 29, false, 0));
        members(ordered, 29, 292, 293);
        members(ordered, 293, 2931, 2932);
    }

    private void takesVersions() {
        of("but kept versions go with it,");
        ShelfServer server = rich();
        it.due("a file with two", DONE, server.move(0, 3, 4, false, 0));
        it.due("the first", DONE, server.restore(0, 4, 0, 0));
        it.due("its content", 3, server.content(4));
        it.due("the second", DONE, server.restore(0, 4, 1, 0));
        it.due("its content too", 10, server.content(4));
        it.due("the next one", 2, server.keep(4));
        files(server, 3);
        it.due("none are left behind", 0, server.keep(3));
        it.due("a tree", DONE, server.move(1, 1, 5, false, 1));
        it.due("one far below", DONE, server.restore(0, 512, 0, 0));
        it.due("its next one", 1, server.keep(512));
        it.due("over a file that has one", DONE, server.move(0, 4, 3, true, 0));
        it.due("those of the file that was moved", 3, server.keep(3));
    }

    private void fromGoes() {
        of("and what is at the path from goes;");
        ShelfServer server = rich();
        it.due("a tree", DONE, server.move(1, 1, 4, false, 1));
        for (int path : new int[] {1, 11, 12, 111, 112}) {
            it.due("gone from " + path, NONE, server.kindOf(path));
        }
        members(server, 0, 3, 2, 4);
        it.due("its locks go", 0, server.covering(112));
        it.due("also at the new path", 0, server.covering(412));
        it.badPlace("they can't be refreshed", () -> server.refresh(1, 0, 5));
        it.due("other locks stay", 6, server.covering(2));
        it.due("the old path is free", DONE, server.put(0, 1, 0, NONE, 0));
    }

    private void allOfTheSource() {
        of("for that the client must be able to change its parent, and all of it.");
        refused("its parent", LOCKED, Part::parentLocked, x -> x.move(0, 111, 4, false, MOST));
        refused("its parent, without the token", LOCKED, Part::parentLocked,
            x -> x.move(1, 111, 4, false, 0));
        it.due("its parent, with the token", DONE, parentLocked().move(1, 111, 4, false, 1));
        refused("the path itself", LOCKED, Part::rich, x -> x.move(0, 112, 4, false, MOST));
        refused("below it", LOCKED, Part::rich, x -> x.move(0, 11, 4, false, MOST));
        refused("far below it", LOCKED, Part::rich, x -> x.move(0, 1, 4, false, MOST));
        refused("without the token", LOCKED, Part::rich, x -> x.move(1, 1, 4, false, MOST - 1));
        it.due("with the token", DONE, rich().move(1, 1, 4, false, 1));
        ShelfServer upper = tree();
        exclusive(upper, 1, 1);
        it.due("the parent's parent is not asked", DONE, upper.move(0, 111, 4, false, 0));
        ShelfServer shared = tree();
        sharedDeep(shared, 1, 2);
        shared(shared, 0, 2);
        it.due("the path, but not what is below", LOCKED, shared.move(0, 2, 4, false, MOST));
    }

    private void moveOutcomes() {
        of("Returns likewise;");
        it.due("DONE", DONE, rich().move(0, 3, 12, true, 0));
        refused("nothing at from", MISSING, Part::rich, x -> x.move(0, 113, 5, true, 0));
        refused("nothing below a file", MISSING, Part::rich, x -> x.move(0, 31, 5, true, 0));
        refused("119 would be 99919", MISSING, CopyMoveSentences::high, x -> x.move(0, 1, 999, true, 0));
        refused("119 would be 99819", MISSING, CopyMoveSentences::high, x -> x.move(0, 1, 998, false, 0));
        refused("11 would be 99911", MISSING, CopyMoveSentences::high, x -> x.move(0, 1, 9991, false, 0));
        ShelfServer server = high();
        it.due("1 with all at 98", DONE, server.move(0, 1, 98, false, 0));
        it.due("119 is 9819 now", 119, server.content(9819));
        it.due("alone at 9999", DONE, server.move(0, 9819, 9999, false, 0));
        it.due("it is there", 119, server.content(9999));
        refused("EXISTS", EXISTS, Part::rich, x -> x.move(0, 3, 12, false, 0));
        refused("LOCKED", LOCKED, Part::rich, x -> x.move(0, 3, 2, true, 0));
    }

    private void neverFull() {
        of("never FULL.");
        ShelfServer server = fullServer();
        it.due("a file", DONE, server.move(0, 72, 73, false, 0));
        it.due("a tree", DONE, server.move(0, 1, 8, false, 0));
        it.due("as many as ahead", 60, server.resources());
        members(server, 8, 81, 82, 83, 84, 85, 86, 87, 88, 89);
        it.due("ten over one", DONE, server.move(0, 8, 71, true, 0));
        it.due("one less", 59, server.resources());
        members(server, 7, 73, 71);
    }

    // ---- both

    private void arguments(AskWith client, AskWith from, AskWith to, AskWith tokens) {
        clients(Part::tree, client);
        pathsBelowTop("`from`: a path, not the top", Part::tree, from);
        of("`to`: a path, not the top,");
        paths(Part::tree, to);
        tokens(Part::tree, tokens);
    }

    private void targets(boolean isCopy) {
        of("neither from nor above or below it");
        badArgument("from", Part::tree, x -> ask(isCopy, x, 3, 3));
        badArgument("from, a collection", Part::tree, x -> ask(isCopy, x, 11, 11));
        badArgument("its parent", Part::tree, x -> ask(isCopy, x, 111, 11));
        badArgument("above that", Part::tree, x -> ask(isCopy, x, 111, 1));
        badArgument("the top, which is above it", Part::tree, x -> ask(isCopy, x, 111, 0));
        badArgument("its member", Part::tree, x -> ask(isCopy, x, 1, 12));
        badArgument("where a member may be", Part::tree, x -> ask(isCopy, x, 1, 13));
        badArgument("below that", Part::tree, x -> ask(isCopy, x, 1, 113));
        badArgument("far below", Part::tree, x -> ask(isCopy, x, 1, 1999));
        it.due("beside it", DONE, ask(isCopy, tree(), 11, 12));
        it.due("beside its parent", DONE, ask(isCopy, tree(), 111, 2));
        it.due("digits alike at the end", DONE, ask(isCopy, tree(), 1, 21));
        it.due("digits alike at the beginning", DONE, ask(isCopy, tree(), 12, 111));
    }

    private void overwrite(boolean isCopy) {
        of("`overwrite`: whether a resource at the path to may be overwritten");
        refused("not a file", EXISTS, Part::rich, x -> ask(isCopy, x, 12, 3, false));
        refused("not a collection", EXISTS, Part::rich, x -> ask(isCopy, x, 3, 1, false));
        it.due("a file", DONE, ask(isCopy, rich(), 12, 3, true));
        it.due("a collection", DONE, ask(isCopy, tree(), 3, 1, true));
        it.due("nothing is there, true", DONE, ask(isCopy, rich(), 12, 4, true));
        it.due("nothing is there, false", DONE, ask(isCopy, rich(), 12, 4, false));
    }

    private void badTargets(boolean isCopy) {
        of("Throws `IllegalArgumentException` if an argument is out of range, or to is not as told");
        badArgument("from is the top", Part::rich, x -> ask(isCopy, x, 0, 4));
        badArgument("from is no path", Part::rich, x -> ask(isCopy, x, 101, 4));
        badArgument("to is no path", Part::rich, x -> ask(isCopy, x, 3, 11111));
        badArgument("to is above, from is not there", Part::rich, x -> ask(isCopy, x, 4111, 4));
        badArgument("to is below, from is not there", Part::rich, x -> ask(isCopy, x, 4, 4111));
        badArgument("to is from, which is not there", Part::rich, x -> ask(isCopy, x, 4, 4));
        badArgument("to is below a file", Part::rich, x -> ask(isCopy, x, 3, 31));
        badArgument("to is below, and locked", Part::rich, x -> ask(isCopy, x, 2, 21));
        badArgument("to is below, else FULL", Part::fullServer, x -> ask(isCopy, x, 1, 11));
    }
}
