import java.util.ArrayList;
import java.util.List;
import java.util.concurrent.Callable;
import java.util.function.Function;

/**
 * "When a call throws, nothing has changed; of several exceptions it is the first one of the throws clause." Each call
 * is made with all combinations of the least and the greatest arguments, those just outside, and those far out; what is
 * due is written here once more, in the order of its throws clause. Behind the refused ones the object is seen through,
 * and has to be as one on which none of them was called.
 */
public final class RefusedTest {
    private static final Class<?> BAD = IllegalArgumentException.class;
    private static final Class<?> NO_SUCH = IndexOutOfBoundsException.class;
    private static final Class<?> NOT_NOW = IllegalStateException.class;
    private static final int LEAST = Integer.MIN_VALUE;
    private static final int GREATEST = Integer.MAX_VALUE;
    /** So many refused calls on one object that it stays under 512 calls with all that is seen of it. */
    private static final int AT_ONCE = 100;

    private static final int[] PEERS = {LEAST, -1, 0, 1, 3, 5, 6, 15, 16, GREATEST};
    private static final int[] FILES = {LEAST, -1, 0, 1, 2, 11, 12, GREATEST};
    private static final int[] PIECES = {LEAST, -1, 0, 1, 5, 6, GREATEST};
    private static final int[] BYTES = {LEAST, -1, 0, 7, 255, 256, GREATEST};
    private static final int[] NUMBERS = {LEAST, -1, 0, 999, 1000, GREATEST};

    private static final Check check = new Check("RefusedTest");

    /** A call with the exception that is due, or null if it is to be answered. */
    private record Due(String what, Class<?> want, Function<PeerStores, Object> call) {
    }

    private final int peers;
    private final int files;
    private final List<Due> refused = new ArrayList<>();
    private final String[] untouched = new String[Seen.PARTS];

    private RefusedTest(int peers, int files) {
        this.peers = peers;
        this.files = files;
        for (int part = 0; part < Seen.PARTS; part++) {
            untouched[part] = Seen.part(made(), part);
        }
    }

    public static void main(String[] args) {
        int[][] sizes = {{0, 0}, {1, 1}, {6, 2}, {16, 12}};
        for (int[] size : sizes) {
            new RefusedTest(size[0], size[1]).all();
        }
        check.finish();
    }

    private void all() {
        peer();
        turn();
        bucket();
        lookup();
        closest();
        file();
        pieceAndSpoil();
        tree();
        mend();
        fetch();
        tell();
        nameAndSpread();
        ledger();
        hold();
    }

    /** The peer 3 is away, if there is one, and so is the last of sixteen; the name 7 is of the peer 0, 9 of 1. */
    private PeerStores made() {
        PeerStores x = new PeerStores();
        for (int i = 0; i < peers; i++) {
            x.peer(idOf(i), i == 2 ? 2 : i == 4 ? 1 : 0, i - 1);
        }
        for (int i = 0; i < files; i++) {
            x.file(i % peers, 0x01020304 * i + 5);
        }
        if (peers > 0) {
            x.tell(0, 7, 5, 500);
            x.spread(0);
        }
        if (peers > 3) {
            x.tell(1, 9, 6, 600);
            x.spoil(0, 0);
            x.pass();
            x.pass();
            x.fetch(1, 0);
            x.turn(3, false);
            x.lookup(0, 0, 2);
        }
        if (peers == 16) {
            x.turn(15, false);
        }
        return x;
    }

    private static int idOf(int peer) {
        return peer * 37 % 256;
    }

    private boolean noPeer(int peer) {
        return peer < 0 || peer >= peers;
    }

    private boolean away(int peer) {
        return peers > 3 && peer == 3 || peers == 16 && peer == 15;
    }

    private boolean noFile(int file) {
        return file < 0 || file >= files;
    }

    private static boolean out(int number, int least, int greatest) {
        return number < least || number > greatest;
    }

    private static Class<?> first(boolean isFirst, Class<?> one, boolean isSecond, Class<?> two, boolean isThird,
            Class<?> three) {
        return isFirst ? one : isSecond ? two : isThird ? three : null;
    }

    private void due(String what, Class<?> want, Function<PeerStores, Object> call) {
        if (want == null) {
            check.same(what + " of peers " + peers, told(() -> call.apply(made())), "answered");
        } else {
            refused.add(new Due(what + " of peers " + peers, want, call));
        }
    }

    private static String told(Callable<?> call) {
        try {
            call.call();
            return "answered";
        } catch (Exception e) {
            return e.getClass().getName();
        }
    }

    /** The refused calls, some at once, and then all that can be seen. */
    private void hold() {
        for (int from = 0; from < refused.size(); from += AT_ONCE) {
            List<Due> some = refused.subList(from, Math.min(refused.size(), from + AT_ONCE));
            for (int part = 0; part < Seen.PARTS; part++) {
                PeerStores x = made();
                for (Due due : some) {
                    check.fails(due.what, due.want, () -> due.call.apply(x));
                }
                String last = some.get(some.size() - 1).what;
                check.same("nothing has changed from " + some.get(0).what + " to " + last, Seen.part(x, part),
                        untouched[part]);
            }
        }
    }

    // ---- the calls

    private void peer() {
        int[] ids = {LEAST, -1, 0, 37, 100, 255, 256, GREATEST};
        int[] sorts = {LEAST, -1, 0, 2, 3, GREATEST};
        int[] bys = {LEAST, -2, -1, 0, 3, 5, 6, 15, 16, GREATEST};
        for (int id : ids) {
            boolean isTaken = false;
            for (int i = 0; i < peers; i++) {
                isTaken |= idOf(i) == id;
            }
            for (int sort : sorts) {
                for (int by : bys) {
                    Class<?> want = first(out(id, 0, 255) || out(sort, 0, 2), BAD, by != -1 && noPeer(by), NO_SUCH,
                            peers == 16 || isTaken || away(by), NOT_NOW);
                    due("peer(" + id + ", " + sort + ", " + by + ")", want, x -> x.peer(id, sort, by));
                }
            }
        }
    }

    private void turn() {
        for (int p : PEERS) {
            Class<?> want = noPeer(p) ? NO_SUCH : null;
            due("turn(" + p + ", true)", want, x -> x.turn(p, true));
            due("turn(" + p + ", false)", want, x -> x.turn(p, false));
        }
    }

    private void bucket() {
        int[] buckets = {LEAST, -1, 0, 7, 8, GREATEST};
        int[] places = {LEAST, -1, 0, 1, 2, GREATEST};
        for (int p : PEERS) {
            for (int b : buckets) {
                for (int place : places) {
                    Class<?> want = first(noPeer(p) || place < 0, NO_SUCH, out(b, 0, 7), BAD, false, null);
                    due("bucket(" + p + ", " + b + ", " + place + ")", want, x -> x.bucket(p, b, place));
                }
            }
        }
    }

    private void lookup() {
        int[] all = {LEAST, -1, 0, 1, 2, 3, GREATEST};
        for (int p : PEERS) {
            for (int key : BYTES) {
                for (int ways : all) {
                    boolean isBad = out(key, 0, 255) || out(ways, 1, 2);
                    Class<?> want = first(noPeer(p), NO_SUCH, isBad, BAD, away(p), NOT_NOW);
                    due("lookup(" + p + ", " + key + ", " + ways + ")", want, x -> x.lookup(p, key, ways));
                }
            }
        }
    }

    private void closest() {
        for (int p : PEERS) {
            for (int key : BYTES) {
                Class<?> want = first(noPeer(p), NO_SUCH, out(key, 0, 255), BAD, false, null);
                due("closest(" + p + ", " + key + ")", want, x -> x.closest(p, key));
            }
        }
    }

    private void file() {
        int[] values = {LEAST, -1, 0, GREATEST};
        for (int p : PEERS) {
            for (int four : values) {
                Class<?> want = first(noPeer(p), NO_SUCH, away(p) || files == 12, NOT_NOW, false, null);
                due("file(" + p + ", " + four + ")", want, x -> x.file(p, four));
            }
        }
    }

    private void pieceAndSpoil() {
        int[] whats = {LEAST, -1, 0, 1, 2, 3, 4, GREATEST};
        for (int f : FILES) {
            for (int piece : PIECES) {
                boolean isNone = noFile(f) || out(piece, 0, 5);
                for (int what : whats) {
                    Class<?> want = first(isNone, NO_SUCH, out(what, 0, 3), BAD, false, null);
                    due("piece(" + f + ", " + piece + ", " + what + ")", want, x -> x.piece(f, piece, what));
                }
                boolean isHeld = !isNone && made().piece(f, piece, 1) >= 0;
                due("spoil(" + f + ", " + piece + ")", first(isNone, NO_SUCH, !isHeld, NOT_NOW, false, null),
                        x -> x.spoil(f, piece));
            }
        }
    }

    private void tree() {
        int[] rows = {LEAST, -1, 0, 2, 3, GREATEST};
        for (int f : FILES) {
            due("root(" + f + ")", noFile(f) ? NO_SUCH : null, x -> x.root(f));
            for (int piece : PIECES) {
                boolean isNone = noFile(f) || out(piece, 0, 5);
                for (int row : rows) {
                    Class<?> want = first(isNone, NO_SUCH, out(row, 0, 2), BAD, false, null);
                    due("proof(" + f + ", " + piece + ", " + row + ")", want, x -> x.proof(f, piece, row));
                }
                for (int value : BYTES) {
                    Class<?> want = first(isNone, NO_SUCH, out(value, 0, 255), BAD, false, null);
                    due("isProved(" + f + ", " + piece + ", " + value + ", ..)", want,
                            x -> x.isProved(f, piece, value, LEAST, GREATEST, -1));
                }
            }
        }
    }

    private void mend() {
        int[] sets = {LEAST, -1, 0, 7, 15, 60, 56, 63, 64, 127, GREATEST};
        for (int f : FILES) {
            for (int set : sets) {
                boolean isBad = out(set, 0, 63) || Integer.bitCount(set) < 4;
                due("mend(" + f + ", " + set + ")", first(noFile(f), NO_SUCH, isBad, BAD, false, null),
                        x -> x.mend(f, set));
            }
        }
    }

    private void fetch() {
        for (int p : PEERS) {
            for (int f : FILES) {
                Class<?> want = first(noPeer(p) || noFile(f), NO_SUCH, away(p), NOT_NOW, false, null);
                due("fetch(" + p + ", " + f + ")", want, x -> x.fetch(p, f));
            }
        }
    }

    private void tell() {
        int[] keys = {LEAST, -1, 0, 7, 9, 255, 256, GREATEST};
        for (int p : PEERS) {
            for (int key : keys) {
                // The name 9 is told only where there is a peer 1 to tell it.
                boolean isOthers = key == 7 && p != 0 || key == 9 && peers > 3 && p != 1;
                for (int number : NUMBERS) {
                    for (int value : NUMBERS) {
                        boolean isBad = out(key, 0, 255) || out(number, 0, 999) || out(value, 0, 999);
                        Class<?> want = first(noPeer(p), NO_SUCH, isBad, BAD, away(p) || isOthers, NOT_NOW);
                        due("tell(" + p + ", " + key + ", " + number + ", " + value + ")", want,
                                x -> x.tell(p, key, number, value));
                    }
                }
            }
        }
    }

    private void nameAndSpread() {
        for (int p : PEERS) {
            for (int key : BYTES) {
                Class<?> want = first(noPeer(p), NO_SUCH, out(key, 0, 255), BAD, away(p), NOT_NOW);
                due("name(" + p + ", " + key + ")", want, x -> x.name(p, key));
            }
            due("spread(" + p + ")", first(noPeer(p), NO_SUCH, away(p), NOT_NOW, false, null), x -> x.spread(p));
        }
    }

    private void ledger() {
        for (int p : PEERS) {
            due("worth(" + p + ")", noPeer(p) ? NO_SUCH : null, x -> x.worth(p));
            for (int other : PEERS) {
                due("owes(" + p + ", " + other + ")", noPeer(p) || noPeer(other) ? NO_SUCH : null,
                        x -> x.owes(p, other));
            }
        }
    }
}
