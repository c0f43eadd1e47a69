import java.util.ArrayList;
import java.util.Comparator;
import java.util.HashMap;
import java.util.HashSet;
import java.util.List;
import java.util.Map;
import java.util.Set;

/**
 * The document read a second time, with lists and maps, for ModelTest to hold against PeerStores.
 * It is written apart from the program on purpose, and shares no code with it.
 */
final class Model {
    private static final class Peer {
        int number;
        int id;
        int sort;
        boolean online = true;
        final List<List<Peer>> buckets = new ArrayList<>();
        final Map<Integer, int[]> names = new HashMap<>();
        final Map<Peer, Integer> owes = new HashMap<>();
    }

    private static final class Piece {
        int value;
        int number;
        Peer holder;
        boolean kept;
        int misses;
    }

    private static final class Stored {
        Peer owner;
        int[] data = new int[4];
        List<Piece> pieces = new ArrayList<>();
        List<List<Integer>> tree = new ArrayList<>();
    }

    private final List<Peer> peers = new ArrayList<>();
    private final List<Stored> files = new ArrayList<>();
    private final Map<Integer, Peer> tellers = new HashMap<>();
    private int asked;
    private int rounds;
    private int day;

    int peerCount() {
        return peers.size();
    }

    int fileCount() {
        return files.size();
    }

    // ---- peers

    int peer(int id, int sort, int by) {
        if (id < 0 || id > 255 || sort < 0 || sort > 2) {
            throw new IllegalArgumentException();
        }
        if (by < -1 || by >= peers.size()) {
            throw new IndexOutOfBoundsException();
        }
        boolean isTaken = peers.stream().anyMatch(p -> p.id == id);
        if (peers.size() == 16 || isTaken || by >= 0 && !peers.get(by).online) {
            throw new IllegalStateException();
        }
        Peer made = new Peer();
        made.number = peers.size();
        made.id = id;
        made.sort = sort;
        for (int b = 0; b < 8; b++) {
            made.buckets.add(new ArrayList<>());
        }
        peers.add(made);
        if (by >= 0) {
            hear(peers.get(by), made);
            hear(made, peers.get(by));
            search(made, id, 1);
        }
        return made.number;
    }

    boolean turn(int peer, boolean isOnline) {
        Peer p = get(peer);
        boolean was = p.online;
        p.online = isOnline;
        return was;
    }

    int bucket(int peer, int bucket, int place) {
        Peer p = get(peer);
        if (place < 0) {
            throw new IndexOutOfBoundsException();
        }
        range(bucket, 0, 7);
        List<Peer> row = p.buckets.get(bucket);
        return place < row.size() ? row.get(place).number : -1;
    }

    int lookup(int peer, int key, int ways) {
        Peer p = get(peer);
        range(key, 0, 255);
        range(ways, 1, 2);
        online(p);
        return digits(search(p, key, ways));
    }

    int asked() {
        return asked;
    }

    int closest(int peer, int key) {
        Peer p = get(peer);
        range(key, 0, 255);
        List<Peer> all = new ArrayList<>(peers);
        all.removeIf(q -> q == p || !q.online || q.sort == 1);
        return digits(firstThree(all, key));
    }

    private Peer get(int peer) {
        if (peer < 0 || peer >= peers.size()) {
            throw new IndexOutOfBoundsException();
        }
        return peers.get(peer);
    }

    private static void range(int x, int from, int to) {
        if (x < from || x > to) {
            throw new IllegalArgumentException();
        }
    }

    private static void online(Peer p) {
        if (!p.online) {
            throw new IllegalStateException();
        }
    }

    private static void hear(Peer p, Peer q) {
        int highest = (int) (Math.log(p.id ^ q.id) / Math.log(2) + 1e-9);
        List<Peer> bucket = p.buckets.get(highest);
        if (bucket.remove(q)) {
            bucket.add(q);
        } else if (bucket.size() < 2) {
            bucket.add(q);
        } else if (!bucket.get(0).online) {
            bucket.remove(0);
            bucket.add(q);
        } else {
            bucket.add(bucket.remove(0));
        }
    }

    private static List<Peer> keeps(Peer p) {
        List<Peer> all = new ArrayList<>();
        p.buckets.forEach(all::addAll);
        return all;
    }

    private static List<Peer> sorted(List<Peer> some, int key) {
        List<Peer> row = new ArrayList<>(some);
        row.sort(Comparator.comparingInt(p -> p.id ^ key));
        return row;
    }

    private static List<Peer> firstThree(List<Peer> some, int key) {
        List<Peer> row = sorted(some, key);
        return row.subList(0, Math.min(3, row.size()));
    }

    private static int digits(List<Peer> row) {
        int sum = 0;
        int worth = 1;
        for (Peer p : row) {
            sum += worth * (p.number + 1);
            worth *= 32;
        }
        return sum;
    }

    private List<Peer> search(Peer asker, int key, int ways) {
        List<List<Peer>> rows = new ArrayList<>();
        for (int w = 0; w < ways; w++) {
            rows.add(new ArrayList<>());
        }
        int next = 0;
        for (Peer p : sorted(keeps(asker), key)) {
            rows.get(next).add(p);
            next = (next + 1) % ways;
        }
        Set<Peer> done = new HashSet<>();
        List<Peer> answered = new ArrayList<>();
        boolean isGoingOn = true;
        while (isGoingOn) {
            isGoingOn = false;
            for (int w = 0; w < ways; w++) {
                List<Peer> chosen = new ArrayList<>(firstThree(rows.get(w), key));
                chosen.removeAll(done);
                while (chosen.size() > 2) {
                    chosen.remove(2);
                }
                for (Peer p : chosen) {
                    isGoingOn = true;
                    done.add(p);
                    if (!p.online || p.sort == 1) {
                        continue;
                    }
                    hear(p, asker);
                    hear(asker, p);
                    answered.add(p);
                    List<Peer> known = keeps(p);
                    if (p.sort == 2) {
                        known.removeIf(q -> q.sort != 2);
                    }
                    for (Peer q : firstThree(known, key)) {
                        if (q != asker && !rows.get(w).contains(q)) {
                            rows.get(w).add(q);
                        }
                    }
                }
            }
        }
        asked = done.size();
        return firstThree(answered, key);
    }

    // ---- files

    private static final int[] EXP = new int[510];
    private static final int[] LOG = new int[256];

    static {
        int x = 1;
        for (int i = 0; i < 255; i++) {
            EXP[i] = x;
            EXP[i + 255] = x;
            LOG[x] = i;
            x = x * 2 > 255 ? (x * 2) ^ 285 : x * 2;
        }
    }

    private static int times(int a, int b) {
        return a == 0 || b == 0 ? 0 : EXP[LOG[a] + LOG[b]];
    }

    static int hash(int x, int y) {
        int h = (x * 31 + y) * 1103515245 + 12345;
        return h ^ (h >>> 16);
    }

    int file(int owner, int values) {
        Peer p = get(owner);
        online(p);
        if (files.size() == 12) {
            throw new IllegalStateException();
        }
        Stored f = new Stored();
        f.owner = p;
        int[] all = new int[6];
        for (int i = 0; i < 4; i++) {
            all[i] = f.data[i] = (values >>> (8 * i)) & 255;
            all[4] ^= all[i];
            all[5] ^= times(all[i], 1 << i);
        }
        List<Integer> row = new ArrayList<>();
        for (int i = 0; i < 6; i++) {
            Piece piece = new Piece();
            piece.value = all[i];
            piece.number = i;
            f.pieces.add(piece);
            row.add(hash(all[i], i));
        }
        row.add(0);
        row.add(0);
        while (row.size() > 1) {
            f.tree.add(row);
            List<Integer> above = new ArrayList<>();
            for (int i = 0; i < row.size(); i += 2) {
                above.add(hash(row.get(i), row.get(i + 1)));
            }
            row = above;
        }
        f.tree.add(row);
        files.add(f);
        store(f);
        return files.size() - 1;
    }

    private void store(Stored f) {
        for (Piece piece : f.pieces) {
            if (piece.holder != null) {
                continue;
            }
            for (Peer p : search(f.owner, f.tree.get(0).get(piece.number) & 255, 2)) {
                boolean isFree = p != f.owner && f.pieces.stream().noneMatch(x -> x.holder == p);
                if (isFree) {
                    piece.holder = p;
                    piece.kept = p.sort == 0;
                    piece.misses = 0;
                    break;
                }
            }
        }
    }

    private Stored getFile(int file) {
        if (file < 0 || file >= files.size()) {
            throw new IndexOutOfBoundsException();
        }
        return files.get(file);
    }

    private Piece getPiece(int file, int piece) {
        Stored f = getFile(file);
        if (piece < 0 || piece > 5) {
            throw new IndexOutOfBoundsException();
        }
        return f.pieces.get(piece);
    }

    int piece(int file, int piece, int what) {
        Piece p = getPiece(file, piece);
        range(what, 0, 3);
        if (what == 0) {
            return p.value;
        }
        if (p.holder == null) {
            return what == 1 ? -1 : 0;
        }
        return what == 1 ? p.holder.number : what == 2 ? (p.kept ? 1 : 0) : p.misses;
    }

    boolean spoil(int file, int piece) {
        Piece p = getPiece(file, piece);
        if (p.holder == null) {
            throw new IllegalStateException();
        }
        boolean was = p.kept;
        p.kept = false;
        return was;
    }

    int root(int file) {
        return getFile(file).tree.get(3).get(0);
    }

    int proof(int file, int piece, int row) {
        getPiece(file, piece);
        range(row, 0, 2);
        int place = piece;
        for (int i = 0; i < row; i++) {
            place /= 2;
        }
        return getFile(file).tree.get(row).get(place % 2 == 0 ? place + 1 : place - 1);
    }

    boolean isProved(int file, int piece, int value, int first, int second, int third) {
        getPiece(file, piece);
        range(value, 0, 255);
        int h = hash(value, piece);
        int place = piece;
        for (int n : new int[] {first, second, third}) {
            h = place % 2 == 0 ? hash(h, n) : hash(n, h);
            place /= 2;
        }
        return h == root(file);
    }

    int mend(int file, int pieces) {
        Stored f = getFile(file);
        range(pieces, 0, 63);
        if (Integer.bitCount(pieces) < 4) {
            throw new IllegalArgumentException();
        }
        return f.data[0] | f.data[1] << 8 | f.data[2] << 16 | f.data[3] << 24;
    }

    int fetch(int peer, int file) {
        Peer p = get(peer);
        Stored f = getFile(file);
        online(p);
        List<Peer> givers = new ArrayList<>();
        for (Piece piece : f.pieces) {
            if (givers.size() < 4 && piece.holder != null && piece.holder.online && piece.kept) {
                givers.add(piece.holder);
            }
        }
        if (p == f.owner || givers.size() < 4) {
            return 0;
        }
        for (Peer giver : givers) {
            if (giver != p) {
                owe(p, giver, 1);
            }
        }
        return 4;
    }

    int pass() {
        if (day == 500) {
            throw new IllegalStateException();
        }
        day++;
        for (Stored f : files) {
            for (Piece p : f.pieces) {
                if (!f.owner.online || p.holder == null) {
                    continue;
                }
                if (p.holder.online && p.kept) {
                    owe(f.owner, p.holder, 3);
                    p.misses = 0;
                } else {
                    p.misses++;
                    if (p.misses == 3) {
                        owe(p.holder, f.owner, 10);
                        p.holder = null;
                    }
                }
            }
        }
        for (Stored f : files) {
            long held = f.pieces.stream().filter(p -> p.holder != null).count();
            long good = f.pieces.stream().filter(p -> p.holder != null && p.kept && p.holder.online).count();
            if (f.owner.online && held <= 4 && good >= 4) {
                store(f);
            }
        }
        return day;
    }

    // ---- names, messages

    int tell(int peer, int key, int number, int value) {
        Peer p = get(peer);
        range(key, 0, 255);
        range(number, 0, 999);
        range(value, 0, 999);
        online(p);
        if (tellers.getOrDefault(key, p) != p) {
            throw new IllegalStateException();
        }
        tellers.put(key, p);
        int sum = 0;
        for (Peer q : search(p, key, 2)) {
            int[] old = q.names.get(key);
            if (q.sort == 0 && (old == null || old[0] < number)) {
                q.names.put(key, new int[] {number, value});
                sum++;
            }
        }
        return sum;
    }

    int name(int peer, int key) {
        Peer p = get(peer);
        range(key, 0, 255);
        online(p);
        int[] best = null;
        for (Peer q : search(p, key, 2)) {
            int[] own = q.names.get(key);
            if (own != null && (best == null || own[0] > best[0])) {
                best = own;
            }
        }
        return best == null ? -1 : 1000 * best[0] + best[1];
    }

    int spread(int peer) {
        Peer teller = get(peer);
        online(teller);
        Set<Peer> got = new HashSet<>();
        got.add(teller);
        List<Peer> latest = new ArrayList<>();
        latest.add(teller);
        rounds = 0;
        while (!latest.isEmpty()) {
            List<Peer> fresh = new ArrayList<>();
            for (Peer p : latest) {
                if (p != teller && p.sort != 0) {
                    continue;
                }
                for (Peer q : keeps(p)) {
                    if (q.online && q.sort != 1 && got.add(q)) {
                        fresh.add(q);
                    }
                }
            }
            rounds += fresh.isEmpty() ? 0 : 1;
            latest = fresh;
        }
        return got.size() - 1;
    }

    int rounds() {
        return rounds;
    }

    // ---- the ledger

    private static void owe(Peer p, Peer q, int more) {
        p.owes.merge(q, more, Integer::sum);
    }

    private static int debt(Peer p, Peer q) {
        return p.owes.getOrDefault(q, 0);
    }

    int owes(int peer, int other) {
        return debt(get(peer), get(other));
    }

    /** The next ring is searched for from the start each time, as the document's words go. */
    int net() {
        int less = 0;
        List<Peer> ring = firstRing();
        while (ring != null) {
            int least = Integer.MAX_VALUE;
            for (int i = 0; i < ring.size(); i++) {
                least = Math.min(least, debt(ring.get(i), ring.get((i + 1) % ring.size())));
            }
            for (int i = 0; i < ring.size(); i++) {
                owe(ring.get(i), ring.get((i + 1) % ring.size()), -least);
                less += least;
            }
            ring = firstRing();
        }
        return less;
    }

    private List<Peer> firstRing() {
        for (Peer a : peers) {
            for (Peer b : peers) {
                if (a.number < b.number && debt(a, b) > 0 && debt(b, a) > 0) {
                    return List.of(a, b);
                }
            }
        }
        for (Peer a : peers) {
            for (Peer b : peers) {
                for (Peer c : peers) {
                    boolean isRow = a.number < b.number && a.number < c.number && b != c;
                    if (isRow && debt(a, b) > 0 && debt(b, c) > 0 && debt(c, a) > 0) {
                        return List.of(a, b, c);
                    }
                }
            }
        }
        return null;
    }

    int worth(int peer) {
        Peer p = get(peer);
        int sum = 0;
        for (Peer q : peers) {
            sum += debt(q, p) - debt(p, q);
        }
        return sum;
    }
}
