import java.util.ArrayDeque;
import java.util.Deque;
import java.util.Random;
import java.util.function.IntSupplier;

/**
 * Long runs of calls, the same ones for every run of this test, on the program and on the Model;
 * after each call some of what can be seen is compared too, so that a call that throws and yet
 * changes something is found.
 */
public final class ModelTest {
    private static final int RUNS = 200;
    private static final int CALLS = 512;

    private final Check check = new Check("ModelTest");
    private final Deque<String> latest = new ArrayDeque<>();
    private Random random;
    private PeerStores real;
    private Model model;
    private boolean isWrong;

    public static void main(String[] args) {
        ModelTest test = new ModelTest();
        for (int run = 0; run < RUNS && !test.isWrong; run++) {
            test.oneRun(run);
        }
        test.check.finish();
    }

    private void oneRun(int run) {
        random = new Random(run);
        real = new PeerStores();
        model = new Model();
        latest.clear();
        int peers = random.nextInt(17);
        int sorts = 1 + random.nextInt(3);
        int spareBits = random.nextInt(3) == 0 ? random.nextInt(5) : 0;
        for (int i = 0; i < peers; i++) {
            int id = random.nextInt(256 >> spareBits);
            int sort = random.nextInt(3) == 0 ? random.nextInt(sorts) : 0;
            int by = i == 0 ? -1 : random.nextInt(i + 1) - random.nextInt(2);
            compare("peer", () -> real.peer(id, sort, by), () -> model.peer(id, sort, by), id, sort, by);
        }
        for (int call = peers; call < CALLS && !isWrong; call++) {
            oneCall();
        }
    }

    private int anyPeer() {
        return random.nextInt(40) == 0 ? wild() : random.nextInt(14);
    }

    private int anyFile() {
        return random.nextInt(40) == 0 ? wild() : random.nextInt(6);
    }

    private int below(int bound) {
        return random.nextInt(40) == 0 ? wild() : random.nextInt(bound);
    }

    private int wild() {
        int[] some = {-1, 16, 12, 6, 256, 1000, 64, Integer.MIN_VALUE, Integer.MAX_VALUE, -2, 3, 32};
        return some[random.nextInt(some.length)];
    }

    private void oneCall() {
        int kind = random.nextInt(30);
        int p = anyPeer();
        int key = below(random.nextBoolean() ? 256 : 8);
        int f = anyFile();
        int x = below(6);
        if (kind == 0) {
            int id = below(256);
            int sort = below(3);
            int by = random.nextInt(6) == 0 ? -1 : p;
            compare("peer", () -> real.peer(id, sort, by), () -> model.peer(id, sort, by), id, sort, by);
        } else if (kind <= 3) {
            boolean isOnline = random.nextInt(3) > 0;
            compare("turn", () -> bit(real.turn(p, isOnline)), () -> bit(model.turn(p, isOnline)), p, bit(isOnline));
        } else if (kind <= 5) {
            int b = below(8);
            int place = below(3);
            compare("bucket", () -> real.bucket(p, b, place), () -> model.bucket(p, b, place), p, b, place);
        } else if (kind <= 8) {
            int ways = random.nextInt(20) == 0 ? wild() : 1 + random.nextInt(2);
            compare("lookup", () -> real.lookup(p, key, ways), () -> model.lookup(p, key, ways), p, key, ways);
        } else if (kind == 9) {
            compare("closest", () -> real.closest(p, key), () -> model.closest(p, key), p, key);
        } else if (kind == 10) {
            int values = random.nextInt();
            compare("file", () -> real.file(p, values), () -> model.file(p, values), p, values);
        } else if (kind <= 12) {
            int what = below(4);
            compare("piece", () -> real.piece(f, x, what), () -> model.piece(f, x, what), f, x, what);
        } else if (kind == 13) {
            compare("spoil", () -> bit(real.spoil(f, x)), () -> bit(model.spoil(f, x)), f, x);
        } else if (kind <= 15) {
            treeCall(f, x);
        } else if (kind == 16) {
            int set = below(64);
            compare("mend", () -> real.mend(f, set), () -> model.mend(f, set), f, set);
        } else if (kind <= 18) {
            compare("fetch", () -> real.fetch(p, f), () -> model.fetch(p, f), p, f);
        } else if (kind <= 22) {
            compare("pass", () -> real.pass(), () -> model.pass());
        } else {
            nameOrLedgerCall(kind, p, key);
        }
    }

    private void treeCall(int f, int x) {
        int row = below(3);
        compare("root", () -> real.root(f), () -> model.root(f), f);
        compare("proof", () -> real.proof(f, x, row), () -> model.proof(f, x, row), f, x, row);
        boolean isRight = f >= 0 && f < 6 && x >= 0 && x < 6 && random.nextBoolean() && answers(() -> model.root(f));
        int value = isRight ? model.piece(f, x, 0) ^ random.nextInt(2) : below(256);
        int[] n = new int[3];
        for (int i = 0; i < 3; i++) {
            n[i] = isRight ? model.proof(f, x, i) : random.nextInt();
        }
        compare("isProved", () -> bit(real.isProved(f, x, value, n[0], n[1], n[2])),
                () -> bit(model.isProved(f, x, value, n[0], n[1], n[2])), f, x, value, n[0], n[1], n[2]);
    }

    private void nameOrLedgerCall(int kind, int p, int key) {
        if (kind <= 24) {
            int number = below(random.nextBoolean() ? 1000 : 4);
            int value = below(1000);
            compare("tell", () -> real.tell(p, key, number, value), () -> model.tell(p, key, number, value),
                    p, key, number, value);
        } else if (kind == 25) {
            compare("name", () -> real.name(p, key), () -> model.name(p, key), p, key);
        } else if (kind == 26) {
            compare("spread", () -> real.spread(p), () -> model.spread(p), p);
        } else if (kind == 27) {
            int q = anyPeer();
            compare("owes", () -> real.owes(p, q), () -> model.owes(p, q), p, q);
        } else if (kind == 28 && random.nextInt(4) == 0) {
            compare("net", () -> real.net(), () -> model.net());
        } else {
            compare("worth", () -> real.worth(p), () -> model.worth(p), p);
        }
    }

    private static int bit(boolean is) {
        return is ? 1 : 0;
    }

    private static boolean answers(IntSupplier call) {
        return !told(call).startsWith("throws");
    }

    /** An answer, or exactly which exception: what the machine throws has names of its own. */
    private static String told(IntSupplier call) {
        try {
            return String.valueOf(call.getAsInt());
        } catch (RuntimeException e) {
            return "throws " + e.getClass().getName();
        }
    }

    private void compare(String name, IntSupplier ofReal, IntSupplier ofModel, int... with) {
        if (isWrong) {
            return;
        }
        StringBuilder call = new StringBuilder(name).append('(');
        for (int i = 0; i < with.length; i++) {
            call.append(i == 0 ? "" : ", ").append(with[i]);
        }
        latest.addLast(call.append(')').toString());
        String got = told(ofReal);
        String want = told(ofModel);
        isWrong = !got.equals(want);
        check.same(String.join("; ", latest), got, want);
        compareState();
    }

    private void compareState() {
        StringBuilder got = new StringBuilder();
        StringBuilder want = new StringBuilder();
        for (int p = 0; p < model.peerCount(); p++) {
            for (int b = 0; b < 16; b++) {
                int peer = p;
                int place = b;
                got.append(told(() -> real.bucket(peer, place / 2, place % 2))).append(' ');
                want.append(told(() -> model.bucket(peer, place / 2, place % 2))).append(' ');
                got.append(told(() -> real.owes(peer, place))).append(' ');
                want.append(told(() -> model.owes(peer, place))).append(' ');
            }
        }
        for (int f = 0; f < model.fileCount(); f++) {
            for (int x = 0; x < 24; x++) {
                int number = f;
                int place = x;
                got.append(told(() -> real.piece(number, place / 4, place % 4))).append(' ');
                want.append(told(() -> model.piece(number, place / 4, place % 4))).append(' ');
            }
        }
        got.append(real.asked()).append(' ').append(real.rounds());
        want.append(model.asked()).append(' ').append(model.rounds());
        if (!got.toString().equals(want.toString())) {
            isWrong = true;
            check.same("all that is seen behind " + String.join("; ", latest), got.toString(), want.toString());
        }
    }
}
