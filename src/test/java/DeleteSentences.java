/** The sentences of promises 4 to 6: delete, failures, failureAt. */
final class DeleteSentences extends Part {
    DeleteSentences(Sentences it) {
        super(it);
    }

    @Override
    void run() {
        promise(4);
        deletes();
        pathAndParent();
        alone();
        stays();
        others();
        isPartly();
        arguments();
        outcomes();
        promise(5);
        failures();
        failuresOfTheLast();
        noFailures();
        promise(6);
        failureAt();
        lowest();
        noSuchFailure();
    }

    /** 1 with 11 (111, 112, 113), 12 (121, 122) and 13. */
    private static ShelfServer wide() {
        ShelfServer server = new ShelfServer();
        collections(server, 1, 11, 12);
        files(server, 111, 112, 113, 121, 122, 13);
        return server;
    }

    private void deletes() {
        of("Deletes a resource with all below it.");
        ShelfServer server = tree();
        it.due("a file", DONE, server.delete(0, 12, 0));
        it.due("it is gone", NONE, server.kindOf(12));
        members(server, 1, 11);
        it.due("a tree", DONE, server.delete(0, 1, 0));
        for (int path : new int[] {1, 11, 111, 112}) {
            it.due("gone from " + path, NONE, server.kindOf(path));
        }
        members(server, 0, 2, 3);
        it.due("the others", 3, server.resources());
        it.due("an empty collection", DONE, withEmpty().delete(0, 4, 0));
        ShelfServer full = fullServer();
        for (int path = 1; path <= 7; path++) {
            it.due("delete " + path, DONE, full.delete(0, path, 0));
        }
        it.due("all gone", 0, full.resources());
        members(full, 0);
    }

    private void pathAndParent() {
        of("The client must be able to change the path and its parent, otherwise it is LOCKED.");
        refused("the path", LOCKED, Part::lockedTree, x -> x.delete(0, 112, MOST));
        refused("the path, without its token", LOCKED, Part::lockedTree, x -> x.delete(1, 112, MOST - 1));
        it.due("the path, with its token", DONE, lockedTree().delete(1, 112, 1));
        refused("the parent", LOCKED, Part::parentLocked, x -> x.delete(0, 111, MOST));
        refused("the parent, without its token", LOCKED, Part::parentLocked, x -> x.delete(1, 111, 0));
        it.due("the parent, with its token", DONE, parentLocked().delete(1, 111, 1));
        ShelfServer upper = tree();
        exclusive(upper, 1, 1);
        it.due("the parent's parent is not asked", DONE, upper.delete(0, 111, 0));
        ShelfServer top = tree();
        exclusive(top, 1, 0);
        it.due("the top as parent", LOCKED, top.delete(0, 3, 0));
        it.due("the top above the parent", DONE, top.delete(0, 12, 0));
        it.due("the top as parent, with its token", DONE, top.delete(1, 3, 1));
    }

    private void alone() {
        of("Each resource below is asked for by its own path alone:");
        ShelfServer server = wide();
        exclusive(server, 1, 11);
        it.due("11 may not be changed", PARTLY, server.delete(0, 1, 0));
        it.due("one failure", 1, server.failures());
        it.due("111 is not asked for by its parent", NONE, server.kindOf(111));
        it.due("112 neither", NONE, server.kindOf(112));
        members(server, 0, 1);
        members(server, 1, 11);
        members(server, 11);
        ShelfServer shared = wide();
        sharedDeep(shared, 1, 11);
        shared(shared, 0, 112);
        it.due("112 may be changed by a token of its own", PARTLY, shared.delete(0, 1, 1 << 1));
        members(shared, 11, 111, 113);
        it.due("112 is gone", NONE, shared.kindOf(112));
    }

    private void stays() {
        of("one that the client may not change stays, and so do all collections above it;");
        ShelfServer server = wide();
        collections(server, 14, 141);
        exclusive(server, 1, 1411);
        it.due("deep down", PARTLY, server.delete(0, 1, 0));
        members(server, 0, 1);
        members(server, 1, 14);
        members(server, 14, 141);
        members(server, 141, 1411);
        it.due("its content", 0, server.content(1411));
        it.due("its lock", 1, server.covering(1411));
        it.due("four resources", 4, server.resources());
        ShelfServer two = wide();
        exclusive(two, 1, 122);
        exclusive(two, 2, 111);
        it.due("in two collections", PARTLY, two.delete(0, 1, 0));
        members(two, 1, 11, 12);
        members(two, 11, 111);
        members(two, 12, 122);
    }

    private void others() {
        of("all others go.");
        ShelfServer server = wide();
        server.keep(113);
        shared(server, 0, 113);
        exclusive(server, 1, 112);
        it.due("in part", PARTLY, server.delete(0, 1, 1));
        for (int path : new int[] {111, 113, 12, 121, 122, 13}) {
            it.due("gone from " + path, NONE, server.kindOf(path));
        }
        it.due("three stay", 3, server.resources());
        it.due("their locks go", 0, server.covering(113));
        files(server, 113);
        it.due("their versions go", 0, server.keep(113));
        members(server, 11, 112, 113);
    }

    private void isPartly() {
        of("It is PARTLY if something stays.");
        ShelfServer server = wide();
        exclusive(server, 1, 121);
        it.due("something stays", PARTLY, server.delete(0, 1, 0));
        it.due("the same stays", PARTLY, server.delete(0, 1, 0));
        it.due("what was left", 3, server.resources());
        it.due("nothing stays", DONE, server.delete(1, 1, 1));
        it.due("nothing is left", 0, server.resources());
        ShelfServer ended = wide();
        exclusive(ended, 1, 121);
        ended.pass(50);
        it.due("the lock has ended", DONE, ended.delete(0, 1, 0));
    }

    private void arguments() {
        clients(Part::tree, (x, client) -> x.delete(client, 3, 0));
        pathsBelowTop(Part::tree, (x, path) -> x.delete(0, path, 0));
        tokens(Part::tree, (x, tokens) -> x.delete(0, 3, tokens));
        of("Throws `IllegalArgumentException` if client, path or tokens is out of range");
        badArgument("client, else MISSING", Part::rich, x -> x.delete(4, 4, 0));
        badArgument("client, else LOCKED", Part::rich, x -> x.delete(-1, 112, 0));
        badArgument("path", Part::rich, x -> x.delete(0, 1120, 0));
        badArgument("tokens, else PARTLY", Part::rich, x -> x.delete(0, 1, -1));
    }

    private void outcomes() {
        of("Returns DONE, MISSING, LOCKED or PARTLY.");
        it.due("DONE", DONE, lockedTree().delete(0, 12, 0));
        refused("MISSING", MISSING, Part::lockedTree, x -> x.delete(0, 9, 0));
        refused("MISSING in a collection", MISSING, Part::lockedTree, x -> x.delete(0, 13, 0));
        refused("MISSING below a file", MISSING, Part::lockedTree, x -> x.delete(0, 31, 0));
        refused("LOCKED", LOCKED, Part::lockedTree, x -> x.delete(0, 2, 0));
        it.due("PARTLY", PARTLY, lockedTree().delete(0, 1, 0));
    }

    private void failures() {
        of("Returns how many resources stayed at the last delete() that did not throw because the client might not "
            + "change them themselves;");
        ShelfServer server = wide();
        exclusive(server, 1, 112);
        exclusive(server, 1, 122);
        it.due("two files in two collections", PARTLY, server.delete(0, 1, 0));
        it.due("the collections are not counted", 2, server.failures());
        it.due("five stay", 5, server.resources());
        ShelfServer deep = wide();
        exclusiveDeep(deep, 1, 11);
        it.due("a collection with all below", PARTLY, deep.delete(0, 1, 0));
        it.due("a collection that may not be changed is counted", 4, deep.failures());
        ShelfServer most = allInNine();
        sharedDeep(most, 1, 9);
        shared(most, 0, 9);
        it.due("all but the collection that is deleted", PARTLY, most.delete(0, 9, 1 << 1));
        it.due("59 of them", 59, most.failures());
        it.due("the first", 91, most.failureAt(0));
        it.due("the last", 968, most.failureAt(58));
        it.badPlace("no more", () -> most.failureAt(59));
        it.due("all stay", 60, most.resources());
    }

    /** 9 with the collections 91 to 96, that have nine files each, and the last one eight: 60 resources. */
    private static ShelfServer allInNine() {
        ShelfServer server = new ShelfServer();
        collections(server, 9, 91, 92, 93, 94, 95, 96);
        for (int path = 911; path <= 968; path++) {
            if (path % 10 != 0) {
                files(server, path);
            }
        }
        return server;
    }

    private void failuresOfTheLast() {
        ShelfServer server = wide();
        exclusive(server, 1, 111);
        exclusive(server, 1, 112);
        server.delete(0, 1, 0);
        it.due("the first delete", 2, server.failures());
        it.badArgument("one that throws", () -> server.delete(4, 1, 0));
        it.badArgument("another one", () -> server.delete(0, 10, 0));
        it.badArgument("a third one", () -> server.delete(0, 1, -1));
        it.due("does not count", 2, server.failures());
        server.refresh(1, 0, 0);
        it.due("the second delete", PARTLY, server.delete(0, 1, 0));
        it.due("one is left", 1, server.failures());
        server.move(1, 11, 2, false, MOST);
        server.copy(0, 2, 3, true, 0);
        server.copy(0, 2, 3, true, 0);
        server.put(0, 4, 0, NONE, 0);
        it.due("copy and move are no delete()", 1, server.failures());
        it.due("a file beside", DONE, server.delete(0, 4, 0));
        it.due("none is left", 0, server.failures());
    }

    private void noFailures() {
        of("0 if it was LOCKED or MISSING, or there was none.");
        it.due("there was none", 0, tree().failures());
        ShelfServer locked = rich();
        it.due("one failure", 1, locked.failures());
        it.due("LOCKED", LOCKED, locked.delete(0, 112, 0));
        it.due("none after LOCKED", 0, locked.failures());
        it.badPlace("none to be told", () -> locked.failureAt(0));
        ShelfServer missing = rich();
        it.due("MISSING", MISSING, missing.delete(0, 9, 0));
        it.due("none after MISSING", 0, missing.failures());
        ShelfServer throwing = tree();
        it.badArgument("one that throws", () -> throwing.delete(0, 0, 0));
        it.due("none after it", 0, throwing.failures());
    }

    private void failureAt() {
        of("Returns one of these.");
        it.due("the one", 112, rich().failureAt(0));
        of("Returns the path.");
        ShelfServer server = rich();
        server.pass(43);
        server.move(0, 112, 4, false, 0);
        it.due("that it had then", 112, server.failureAt(0));
        it.due("still one", 1, server.failures());
    }

    private void lowest() {
        of("`place`: 0 for the one with the lowest path, as a number");
        ShelfServer server = new ShelfServer();
        collections(server, 1, 19, 12, 199, 121);
        for (int path : new int[] {1999, 1211, 18, 129, 11, 192}) {
            exclusive(server, 1, path);
        }
        it.due("in part", PARTLY, server.delete(0, 1, 0));
        int[] want = {11, 18, 129, 192, 1211, 1999};
        it.due("failures", want.length, server.failures());
        for (int place = 0; place < want.length; place++) {
            it.due("failure " + place, want[place], server.failureAt(place));
        }
    }

    private void noSuchFailure() {
        of("Throws `IndexOutOfBoundsException` if there are not so many, or place is below 0");
        for (int place : new int[] {1, 2, 59, 60, 61, MOST, -1, -2, LEAST}) {
            badPlace("place " + place, Part::rich, x -> x.failureAt(place));
        }
        badPlace("none at all", Part::tree, x -> x.failureAt(0));
    }
}
