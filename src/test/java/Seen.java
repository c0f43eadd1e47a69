import java.util.concurrent.Callable;

/**
 * All that can be seen of an object, as a text, in parts. Each part is to be asked of an object of its own: some of the
 * calls change it, and all parts together would be more calls than an object is used for.
 */
final class Seen {
    static final int PARTS = 4;
    private static final int[] KEYS = {0, 7, 9, 200, 255};

    private final PeerStores x;
    private final StringBuilder all = new StringBuilder();

    private Seen(PeerStores x) {
        this.x = x;
    }

    static String part(PeerStores x, int part) {
        Seen seen = new Seen(x);
        if (part == 0) {
            seen.buckets();
        } else if (part == 1) {
            seen.debts();
        } else if (part == 2) {
            seen.files();
        } else {
            seen.names();
        }
        return seen.all.toString();
    }

    private void note(Callable<?> call) {
        try {
            all.append(call.call());
        } catch (Exception e) {
            all.append(e.getClass().getSimpleName());
        }
        all.append(' ');
    }

    private void buckets() {
        note(() -> x.asked());
        note(() -> x.rounds());
        for (int i = 0; i < 256; i++) {
            int peer = i / 16;
            int place = i % 16;
            note(() -> x.bucket(peer, place / 2, place % 2));
        }
    }

    private void debts() {
        for (int i = 0; i < 256; i++) {
            int place = i;
            note(() -> x.owes(place / 16, place % 16));
        }
        note(() -> x.net());
    }

    private void files() {
        for (int i = 0; i < 12 * 6; i++) {
            int file = i / 6;
            int piece = i % 6;
            note(() -> x.piece(file, piece, 1));
            note(() -> x.piece(file, piece, 2));
            note(() -> x.piece(file, piece, 3));
        }
        for (int i = 0; i < 12; i++) {
            int file = i;
            note(() -> x.root(file));
        }
        for (int i = 0; i < 16; i++) {
            int peer = i;
            note(() -> x.worth(peer));
            note(() -> x.closest(peer, 0));
        }
        note(() -> x.pass());
        note(() -> x.asked());
    }

    /** Who tells a name first is seen by who may tell it, whether one is there by what turn() answers. */
    private void names() {
        for (int key : KEYS) {
            note(() -> x.name(0, key));
            note(() -> x.name(1, key));
        }
        for (int i = 0; i < 16; i++) {
            int peer = i;
            note(() -> x.turn(peer, true));
        }
        for (int key : KEYS) {
            for (int i = 15; i >= 0; i--) {
                int peer = i;
                note(() -> x.tell(peer, key, 990, 10 * peer));
            }
        }
        for (int i = 0; i < 16; i++) {
            int peer = i;
            note(() -> x.spread(peer));
            note(() -> x.lookup(peer, 3 * peer, 2));
        }
        note(() -> x.peer(101, 0, 0));
        note(() -> x.file(0, 77));
        note(() -> x.piece(0, 0, 0));
    }
}
