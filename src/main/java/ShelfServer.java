/**
 * A file server: a tree of collections and files, with locks, kept versions,
 * and members in an order. All rows are made once, with the object, and used again.
 */
public final class ShelfServer {
    public static final int NONE = -1;
    public static final int DONE = 0, MISSING = 1, EXISTS = 2, CONDITION = 3, LOCKED = 4, FULL = 5, PARTLY = 6;
    public static final int FILE = 1, COLLECTION = 2;

    private static final int TOP = 0;
    private static final int MOST_DIGITS = 4;
    private static final int LAST_PATH = 9999;
    private static final int LAST_CLIENT = 3;
    private static final int LAST_CONTENT = 999;
    private static final int MOST_RESOURCES = 60;
    private static final int MOST_VERSIONS = 10;
    private static final int MOST_LOCKS = 30;
    private static final int MOST_TICKS = 1000;
    private static final int LAST_TIME = 1000000;

    private final Shelf shelf;
    private final Locks locks;
    private final int[] failed;
    private int failedCount;

    public ShelfServer() {
        shelf = new Shelf();
        locks = new Locks();
        failed = new int[MOST_RESOURCES];
        failedCount = 0;
    }

    // ---- resources

    public int makeCollection(int client, int path, int tokens) throws IllegalArgumentException {
        requireClient(client);
        requirePathBelowTop(path);
        requireNotNegative(tokens);
        if (!shelf.isCollection(parentOf(path))) {
            return MISSING;
        }
        if (shelf.find(path) != null) {
            return EXISTS;
        }
        if (!allowsWithParent(client, path, tokens)) {
            return LOCKED;
        }
        if (shelf.count >= MOST_RESOURCES) {
            return FULL;
        }
        shelf.append(path, COLLECTION, 0);
        return DONE;
    }

    public int put(int client, int path, int content, int expected, int tokens) throws IllegalArgumentException {
        requireClient(client);
        requirePathBelowTop(path);
        requireRange(content, 0, LAST_CONTENT);
        requireRange(expected, NONE, LAST_CONTENT);
        requireNotNegative(tokens);
        int outcome = outcomeOfWriting(client, path, expected, tokens);
        if (outcome == DONE) {
            write(path, content);
        }
        return outcome;
    }

    public int delete(int client, int path, int tokens) throws IllegalArgumentException {
        requireClient(client);
        requirePathBelowTop(path);
        requireNotNegative(tokens);
        failedCount = 0;
        if (shelf.find(path) == null) {
            return MISSING;
        }
        if (!allowsWithParent(client, path, tokens)) {
            return LOCKED;
        }
        // Who may change what is asked of the locks as they are ahead of the call: they go with their resources.
        noteFailures(client, path, tokens);
        shelf.markTree(path);
        spareFailures();
        removeMarked();
        return failedCount == 0 ? DONE : PARTLY;
    }

    public int failures() {
        return failedCount;
    }

    public int failureAt(int place) throws IndexOutOfBoundsException {
        if (place < 0 || place >= failedCount || place >= failed.length) {
            throw new IndexOutOfBoundsException("no such failure");
        }
        return failed[place];
    }

    public int copy(int client, int from, int to, boolean overwrite, int tokens) throws IllegalArgumentException {
        requireTransfer(client, from, to, tokens);
        int outcome = outcomeOfTarget(client, from, to, overwrite, tokens);
        if (outcome != DONE) {
            return outcome;
        }
        if (shelf.count - shelf.treeSize(to) + shelf.treeSize(from) > MOST_RESOURCES) {
            return FULL;
        }
        removeTree(to);
        shelf.appendCopyOfTree(from, to);
        return DONE;
    }

    public int move(int client, int from, int to, boolean overwrite, int tokens) throws IllegalArgumentException {
        requireTransfer(client, from, to, tokens);
        int outcome = outcomeOfTarget(client, from, to, overwrite, tokens);
        if (outcome != DONE) {
            return outcome;
        }
        if (!locks.allows(client, parentOf(from), tokens) || !allowsTree(client, from, tokens)) {
            return LOCKED;
        }
        removeTree(to);
        dropLocksOfTree(from);
        shelf.renameTree(from, to);
        return DONE;
    }

    public int kindOf(int path) throws IllegalArgumentException {
        requirePath(path);
        return shelf.kindAt(path);
    }

    public int content(int path) throws IllegalArgumentException {
        requirePath(path);
        Resource file = shelf.findFile(path);
        return file == null ? NONE : file.content;
    }

    public int resources() {
        return shelf.count;
    }

    // ---- members

    public int members(int path) throws IllegalArgumentException {
        requirePath(path);
        return shelf.memberCount(path);
    }

    public int memberAt(int path, int place) throws IllegalArgumentException, IndexOutOfBoundsException {
        requirePath(path);
        int member = shelf.pathAt(shelf.memberIndex(path, place));
        if (member == NONE) {
            throw new IndexOutOfBoundsException("no such member");
        }
        return member;
    }

    public int order(int client, int path, int place, int tokens) throws IllegalArgumentException {
        requireClient(client);
        requirePathBelowTop(path);
        requireNotNegative(place);
        requireNotNegative(tokens);
        if (shelf.find(path) == null) {
            return MISSING;
        }
        if (!locks.allows(client, parentOf(path), tokens)) {
            return LOCKED;
        }
        shelf.placeMember(path, place);
        return DONE;
    }

    // ---- locks

    public int lock(int client, int path, boolean isShared, boolean isDeep, int ticks, int tokens)
            throws IllegalArgumentException, IllegalStateException {
        requireClient(client);
        requirePath(path);
        requireRange(ticks, 1, MOST_TICKS);
        requireNotNegative(tokens);
        if (locks.count >= MOST_LOCKS) {
            throw new IllegalStateException("there have been too many locks");
        }
        if (locks.bar(path, isShared, isDeep)) {
            throw new IllegalStateException("another lock is in the way");
        }
        if (shelf.kindAt(path) == NONE) {
            if (outcomeOfWriting(client, path, NONE, tokens) != DONE) {
                throw new IllegalStateException("no file can be made there");
            }
            write(path, 0);
        }
        return locks.add(client, path, isShared, isDeep, ticks);
    }

    public int refresh(int client, int token, int ticks)
            throws IndexOutOfBoundsException, IllegalArgumentException, IllegalStateException {
        Lock lock = locks.find(token);
        if (lock == null) {
            throw new IndexOutOfBoundsException("no such lock");
        }
        requireClient(client);
        requireRange(ticks, 0, MOST_TICKS);
        if (lock.client != client) {
            throw new IllegalStateException("the lock is of another client");
        }
        int left = lock.end - locks.now;
        lock.end = locks.now + ticks;
        return left;
    }

    public int pass(int ticks) throws IllegalArgumentException, IllegalStateException {
        requireRange(ticks, 1, MOST_TICKS);
        if (locks.now + ticks > LAST_TIME) {
            throw new IllegalStateException("the time would be too late");
        }
        return locks.advance(ticks);
    }

    public int covering(int path) throws IllegalArgumentException {
        requirePath(path);
        return locks.tokensOver(path);
    }

    public boolean mayChange(int client, int path, int tokens) throws IllegalArgumentException {
        requireClient(client);
        requirePath(path);
        requireNotNegative(tokens);
        return locks.allows(client, path, tokens);
    }

    // ---- versions

    public int keep(int path) throws IllegalArgumentException, IllegalStateException {
        requirePath(path);
        Resource file = shelf.findFile(path);
        if (file == null) {
            throw new IllegalStateException("there is no file");
        }
        if (file.versionCount >= MOST_VERSIONS) {
            throw new IllegalStateException("the file has too many versions");
        }
        return file.addVersion();
    }

    public int restore(int client, int path, int version, int tokens) throws IllegalArgumentException {
        requireClient(client);
        requirePath(path);
        requireNotNegative(version);
        requireNotNegative(tokens);
        Resource file = shelf.findFile(path);
        int kept = file == null ? NONE : file.versionAt(version);
        if (file == null || kept == NONE) {
            return MISSING;
        }
        if (!locks.allows(client, path, tokens)) {
            return LOCKED;
        }
        file.content = kept;
        return DONE;
    }

    // ---- what arguments must be

    private static void requireRange(int value, int least, int most) {
        if (value < least || value > most) {
            throw new IllegalArgumentException("an argument is out of its range");
        }
    }

    private static void requireNotNegative(int value) {
        if (value < 0) {
            throw new IllegalArgumentException("an argument is below 0");
        }
    }

    private static void requireClient(int client) {
        requireRange(client, 0, LAST_CLIENT);
    }

    private static void requirePath(int path) {
        if (!isPath(path)) {
            throw new IllegalArgumentException("no path");
        }
    }

    private static void requirePathBelowTop(int path) {
        requirePath(path);
        if (path == TOP) {
            throw new IllegalArgumentException("the top can't be asked for here");
        }
    }

    private static void requireTransfer(int client, int from, int to, int tokens) {
        requireClient(client);
        requirePathBelowTop(from);
        requirePathBelowTop(to);
        requireNotNegative(tokens);
        if (isIn(from, to) || isIn(to, from)) {
            throw new IllegalArgumentException("one path is the other, or above it");
        }
    }

    // ---- paths

    private static boolean isPath(int number) {
        if (number < 0 || number > LAST_PATH) {
            return false;
        }
        int rest = number;
        for (int step = 0; step < MOST_DIGITS && rest > 0; step++) {
            if (rest % 10 == 0) {
                return false;
            }
            rest = rest / 10;
        }
        return true;
    }

    private static int parentOf(int path) {
        return path / 10;
    }

    private static boolean isAbove(int upper, int path) {
        int rest = path;
        for (int step = 0; step < MOST_DIGITS && rest > 0; step++) {
            rest = rest / 10;
            if (rest == upper) {
                return true;
            }
        }
        return false;
    }

    /** Whether a path is the root of a tree, or below it. */
    private static boolean isIn(int root, int path) {
        return path == root || isAbove(root, path);
    }

    /** The path that a path of the tree at from has in the tree at to; above LAST_PATH if it is too long. */
    private static int moved(int path, int from, int to) {
        int rest = path;
        int power = 1;
        for (int step = 0; step < MOST_DIGITS && rest > from; step++) {
            rest = rest / 10;
            power = power * 10;
        }
        return path + (to - from) * power;
    }

    // ---- how a call would go

    private boolean allowsWithParent(int client, int path, int tokens) {
        return locks.allows(client, path, tokens) && locks.allows(client, parentOf(path), tokens);
    }

    /** Whether a client may change each resource of a tree; true if there is none. */
    private boolean allowsTree(int client, int root, int tokens) {
        for (int i = 0; i < shelf.count; i++) {
            int path = shelf.pathAt(i);
            if (isIn(root, path) && !locks.allows(client, path, tokens)) {
                return false;
            }
        }
        return true;
    }

    private int outcomeOfWriting(int client, int path, int expected, int tokens) {
        if (!shelf.isCollection(parentOf(path))) {
            return MISSING;
        }
        if (shelf.isCollection(path)) {
            return EXISTS;
        }
        Resource file = shelf.findFile(path);
        if (expected != NONE && (file == null || file.content != expected)) {
            return CONDITION;
        }
        if (file != null) {
            return locks.allows(client, path, tokens) ? DONE : LOCKED;
        }
        if (!allowsWithParent(client, path, tokens)) {
            return LOCKED;
        }
        return shelf.count >= MOST_RESOURCES ? FULL : DONE;
    }

    /** What copy() and move() ask alike: all but the room for a copy, and the right to take away what is at from. */
    private int outcomeOfTarget(int client, int from, int to, boolean overwrite, int tokens) {
        if (shelf.find(from) == null || !shelf.isCollection(parentOf(to)) || !shelf.fits(from, to)) {
            return MISSING;
        }
        if (!overwrite && shelf.find(to) != null) {
            return EXISTS;
        }
        if (!allowsWithParent(client, to, tokens) || !allowsTree(client, to, tokens)) {
            return LOCKED;
        }
        return DONE;
    }

    // ---- changes

    private void write(int path, int content) {
        Resource file = shelf.findFile(path);
        if (file == null) {
            shelf.append(path, FILE, content);
        } else {
            file.content = content;
        }
    }

    private void noteFailures(int client, int root, int tokens) {
        for (int i = 0; i < shelf.count; i++) {
            int path = shelf.pathAt(i);
            if (isAbove(root, path) && !locks.allows(client, path, tokens)) {
                insertFailure(path);
            }
        }
    }

    /** Keeps the failures in the order of their paths. */
    private void insertFailure(int path) {
        if (failedCount >= failed.length) {
            return;
        }
        int place = failedCount;
        while (place > 0 && failed[place - 1] > path) {
            failed[place] = failed[place - 1];
            place--;
        }
        failed[place] = path;
        failedCount++;
    }

    private void spareFailures() {
        for (int i = 0; i < failedCount && i < failed.length; i++) {
            shelf.spareUpFrom(failed[i]);
        }
    }

    private void removeTree(int root) {
        shelf.markTree(root);
        removeMarked();
    }

    private void removeMarked() {
        for (int i = 0; i < shelf.count; i++) {
            if (shelf.isGoingAt(i)) {
                locks.dropAt(shelf.pathAt(i));
            }
        }
        shelf.removeMarked();
    }

    private void dropLocksOfTree(int root) {
        for (int i = 0; i < shelf.count; i++) {
            int path = shelf.pathAt(i);
            if (isIn(root, path)) {
                locks.dropAt(path);
            }
        }
    }

    /** A file or a collection, with the versions kept of it. */
    private static final class Resource {
        private int path;
        private int kind;
        private int content;
        private boolean isGoing;
        private final int[] versions;
        private int versionCount;

        private Resource() {
            versions = new int[MOST_VERSIONS];
        }

        private void begin(int newPath, int newKind, int newContent) {
            path = newPath;
            kind = newKind;
            content = newContent;
            isGoing = false;
            versionCount = 0;
        }

        /** The content that a version has; NONE if there is no such version. */
        private int versionAt(int version) {
            return version < 0 || version >= versionCount || version >= versions.length ? NONE : versions[version];
        }

        private int addVersion() {
            if (versionCount >= versions.length) {
                return NONE;
            }
            versions[versionCount] = content;
            versionCount++;
            return versionCount - 1;
        }
    }

    /**
     * All resources beside the top, in one row: the members of a collection stand in it in their order,
     * with others between them. The row is never empty anywhere: behind the first count ones it holds
     * resources that are not there now, to be used again.
     */
    private static final class Shelf {
        private final Resource[] row;
        private int count;

        private Shelf() {
            row = new Resource[MOST_RESOURCES];
            for (int i = 0; i < row.length; i++) {
                row[i] = new Resource();
            }
            count = 0;
        }

        private int indexOf(int path) {
            for (int i = 0; i < count && i < row.length; i++) {
                if (row[i].path == path) {
                    return i;
                }
            }
            return NONE;
        }

        /** The resource at a path; null for none, and for the top. */
        private Resource find(int path) {
            int index = indexOf(path);
            return index < 0 || index >= row.length ? null : row[index];
        }

        /** The path of the resource at an index of the row; NONE if none is there. */
        private int pathAt(int index) {
            return index < 0 || index >= count || index >= row.length ? NONE : row[index].path;
        }

        private boolean isGoingAt(int index) {
            return index >= 0 && index < count && index < row.length && row[index].isGoing;
        }

        private Resource findFile(int path) {
            Resource found = find(path);
            return found == null || found.kind != FILE ? null : found;
        }

        private int kindAt(int path) {
            if (path == TOP) {
                return COLLECTION;
            }
            Resource found = find(path);
            return found == null ? NONE : found.kind;
        }

        private boolean isCollection(int path) {
            return kindAt(path) == COLLECTION;
        }

        private void append(int path, int kind, int content) {
            if (count >= row.length) {
                return;
            }
            row[count].begin(path, kind, content);
            count++;
        }

        private int treeSize(int root) {
            int size = 0;
            for (int i = 0; i < count && i < row.length; i++) {
                if (isIn(root, row[i].path)) {
                    size++;
                }
            }
            return size;
        }

        /** Whether no path of the tree at from would be too long in the tree at to. */
        private boolean fits(int from, int to) {
            for (int i = 0; i < count && i < row.length; i++) {
                if (isIn(from, row[i].path) && moved(row[i].path, from, to) > LAST_PATH) {
                    return false;
                }
            }
            return true;
        }

        private void appendCopyOfTree(int from, int to) {
            int end = count;
            for (int i = 0; i < end && i < row.length; i++) {
                Resource one = row[i];
                if (isIn(from, one.path)) {
                    append(moved(one.path, from, to), one.kind, one.content);
                }
            }
        }

        private void renameTree(int from, int to) {
            for (int i = 0; i < count && i < row.length; i++) {
                if (isIn(from, row[i].path)) {
                    row[i].path = moved(row[i].path, from, to);
                }
            }
            placeMember(to, count);
        }

        private void markTree(int root) {
            for (int i = 0; i < count && i < row.length; i++) {
                row[i].isGoing = isIn(root, row[i].path);
            }
        }

        private void spareUpFrom(int path) {
            for (int i = 0; i < count && i < row.length; i++) {
                if (isIn(row[i].path, path)) {
                    row[i].isGoing = false;
                }
            }
        }

        private void removeMarked() {
            int kept = 0;
            for (int i = 0; i < count && i < row.length; i++) {
                Resource one = row[i];
                if (!one.isGoing) {
                    row[i] = row[kept];
                    row[kept] = one;
                    kept++;
                }
            }
            count = kept;
        }

        private int memberCount(int path) {
            int members = 0;
            for (int i = 0; i < count && i < row.length; i++) {
                if (parentOf(row[i].path) == path) {
                    members++;
                }
            }
            return members;
        }

        /** Where in the row a member stands; NONE if there are not so many. */
        private int memberIndex(int path, int place) {
            int ahead = 0;
            for (int i = 0; i < count && i < row.length; i++) {
                if (parentOf(row[i].path) == path) {
                    if (ahead == place) {
                        return i;
                    }
                    ahead++;
                }
            }
            return NONE;
        }

        /** Places a resource in the order of its parent, behind so many other members. */
        private void placeMember(int path, int place) {
            int index = indexOf(path);
            if (index < 0) {
                return;
            }
            // Last in the row first, so that only the other members are counted.
            shift(index, count - 1);
            int target = memberIndex(parentOf(path), place);
            if (target >= 0) {
                shift(count - 1, target);
            }
        }

        /** Takes a resource from one index of the row to another; those between move up. */
        private void shift(int from, int to) {
            if (from < 0 || from >= row.length || to < 0 || to >= row.length) {
                return;
            }
            Resource one = row[from];
            for (int i = from; i < to; i++) {
                row[i] = row[i + 1];
            }
            for (int i = from; i > to; i--) {
                row[i] = row[i - 1];
            }
            row[to] = one;
        }
    }

    /** A lock; it is gone from its end on. */
    private static final class Lock {
        private int client;
        private int path;
        private boolean isShared;
        private boolean isDeep;
        private int end;

        private boolean covers(int other) {
            return other == path || isDeep && isAbove(path, other);
        }
    }

    /** The time, and all locks that there have been: a lock's token is its index. */
    private static final class Locks {
        private final Lock[] row;
        private int count;
        private int now;

        private Locks() {
            row = new Lock[MOST_LOCKS];
            for (int i = 0; i < row.length; i++) {
                row[i] = new Lock();
            }
            count = 0;
            now = 0;
        }

        /** The lock of a token; null if there is none, or none any more. */
        private Lock find(int token) {
            if (token < 0 || token >= count || token >= row.length) {
                return null;
            }
            return row[token].end > now ? row[token] : null;
        }

        private int tokensOver(int path) {
            int set = 0;
            for (int token = 0; token < count; token++) {
                Lock lock = find(token);
                if (lock != null && lock.covers(path)) {
                    set = set | 1 << token;
                }
            }
            return set;
        }

        private boolean allows(int client, int path, int tokens) {
            int over = tokensOver(path);
            if (over == 0) {
                return true;
            }
            int given = over & tokens;
            for (int token = 0; token < count; token++) {
                Lock lock = find(token);
                if (lock != null && lock.client == client && (given & 1 << token) != 0) {
                    return true;
                }
            }
            return false;
        }

        /** Whether there is a lock that a new one can't stand with. */
        private boolean bar(int path, boolean isShared, boolean isDeep) {
            for (int token = 0; token < count; token++) {
                Lock lock = find(token);
                if (lock != null && !(isShared && lock.isShared)) {
                    if (lock.covers(path) || isDeep && isAbove(path, lock.path)) {
                        return true;
                    }
                }
            }
            return false;
        }

        private int add(int client, int path, boolean isShared, boolean isDeep, int ticks) {
            if (count >= row.length) {
                return NONE;
            }
            Lock lock = row[count];
            lock.client = client;
            lock.path = path;
            lock.isShared = isShared;
            lock.isDeep = isDeep;
            lock.end = now + ticks;
            count++;
            return count - 1;
        }

        private void dropAt(int path) {
            for (int token = 0; token < count; token++) {
                Lock lock = find(token);
                if (lock != null && lock.path == path) {
                    lock.end = now;
                }
            }
        }

        private int advance(int ticks) {
            int later = now + ticks;
            int ended = 0;
            for (int token = 0; token < count; token++) {
                Lock lock = find(token);
                if (lock != null && lock.end <= later) {
                    ended++;
                }
            }
            now = later;
            return ended;
        }
    }
}
