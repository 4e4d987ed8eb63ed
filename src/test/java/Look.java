import java.util.ArrayList;
import java.util.List;

/**
 * All that can be seen of a server by its calls, as texts: two servers that answer alike are in the same state.
 * The look itself lets go all locks and keeps versions, so it is the last that is done with a server. It makes
 * so few calls that a full server does not come to its 512th.
 */
final class Look {
    private final ShelfServer server;
    private final List<String> seen = new ArrayList<>();
    private final List<Integer> files = new ArrayList<>();

    private Look(ShelfServer server) {
        this.server = server;
    }

    static List<String> at(ShelfServer server) {
        Look look = new Look(server);
        look.failures();
        look.tree(0);
        for (int token = 0; token < 30; token++) {
            look.lock(token);
        }
        for (int path : look.files) {
            look.versions(path);
        }
        look.see("the next token", () -> server.lock(0, 0, true, false, 1, 0));
        return look.seen;
    }

    private String see(String what, Checks.Call call) {
        String answer;
        try {
            answer = Long.toString(call.answer());
        } catch (IllegalArgumentException | IllegalStateException | IndexOutOfBoundsException thrown) {
            answer = thrown.getClass().getSimpleName();
        }
        seen.add(what + ": " + answer);
        return answer;
    }

    private void failures() {
        see("failures", server::failures);
        for (int place = 0; place < server.failures(); place++) {
            int at = place;
            see("failure " + at, () -> server.failureAt(at));
        }
        see("resources", server::resources);
    }

    private void tree(int path) {
        see("covering " + path, () -> server.covering(path));
        if (server.kindOf(path) == ShelfServer.FILE) {
            see("content of " + path, () -> server.content(path));
            files.add(path);
            return;
        }
        int members = server.members(path);
        for (int place = 0; place < members; place++) {
            int member = server.memberAt(path, place);
            see("member " + place + " of " + path, () -> member);
            tree(member);
        }
    }

    private void lock(int token) {
        for (int client = 0; client <= 3; client++) {
            int one = client;
            String answer = see("lock " + token + " of " + one, () -> server.refresh(one, token, 0));
            if (!answer.equals("IllegalStateException")) {
                return;
            }
        }
    }

    private void versions(int path) {
        String kept = see("versions of " + path, () -> server.keep(path));
        int count = kept.equals("IllegalStateException") ? 10 : Integer.parseInt(kept);
        for (int version = 0; version < count; version++) {
            int one = version;
            see("restore " + path, () -> server.restore(0, path, one, 0));
            see("version " + one + " of " + path, () -> server.content(path));
        }
    }
}
