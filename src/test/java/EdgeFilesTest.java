import java.math.BigInteger;

/** The boundary cases of promises 8 to 16: each test stands below the sentence of the document that it holds. */
public final class EdgeFilesTest {
    private static final Class<?> BAD = IllegalArgumentException.class;
    private static final Class<?> NO_SUCH = IndexOutOfBoundsException.class;
    private static final Class<?> NOT_NOW = IllegalStateException.class;
    private static final int LEAST = Integer.MIN_VALUE;
    private static final int GREATEST = Integer.MAX_VALUE;
    private static final int[] EDGE_VALUES = {0, -1, LEAST, GREATEST, 1, 0xFF, 0xFF00, 0xFF0000, 0xFF000000,
        0x80808080, 0x7F7F7F7F, 0x12345678};
    private static final Check check = new Check("EdgeFilesTest");

    public static void main(String[] args) {
        noFilesAtFirst();
        twelveFiles();
        fileOfOneAway();
        valuesOfFourBytes();
        productsAtTheWrap();
        productsOfAll();
        holdersOfNone();
        holdersOfOne();
        holdersOfTheResult();
        holdersByTwoWays();
        holdersOfTheBand();
        keysOfNegativeLeaves();
        keysOfEightBits();
        whatIsKnown();
        whatIsKnownOfNoHolder();
        spoiledTwice();
        spoiledOfNobody();
        spoiledOfOneAway();
        hashesThatOverflow();
        leafOfZeros();
        twoZeros();
        rowsOfAProof();
        provedValues();
        provedByAnyInts();
        mendedByFour();
        mendedByFewer();
        fetchedOfFour();
        fetchedByTheOwner();
        fetchedByAHolder();
        fetchedByNumbers();
        fetchedWithoutDebts();
        fiveHundredDays();
        nothingBehindTheLastDay();
        threeMisses();
        threeMissesOfTheBand();
        missesBrokenInTwo();
        challengesOfAnOwnerAway();
        repairOfFive();
        repairOfFour();
        repairOfThree();
        repairOfFourNotOnline();
        repairOfFourNotKept();
        repairOfAnOwnerAway();
        repairWithoutHolders();
        repairByRisingNumbers();
        thrownAway();
        keptWhileAway();
        check.finish();
    }

    /** Eight honest peers; six of them hold the pieces of the file 0, the owner and a spare one none. */
    private static PeerStores eight() {
        PeerStores x = PeersTest.star(0, 1, 2, 4, 128, 200, 7, 64);
        x.file(0, 0x01020304);
        return x;
    }

    private static int spare(PeerStores x) {
        int sum = 1 + 2 + 3 + 4 + 5 + 6 + 7;
        for (int piece = 0; piece < 6; piece++) {
            sum -= x.piece(0, piece, 1);
        }
        return sum;
    }

    private static int held(PeerStores x, int file) {
        int sum = 0;
        for (int piece = 0; piece < 6; piece++) {
            sum += x.piece(file, piece, 1) >= 0 ? 1 : 0;
        }
        return sum;
    }

    private static void passDays(PeerStores x, int days) {
        for (int i = 0; i < days; i++) {
            x.pass();
        }
    }

    /** "(x * 31 + y) * 1103515245 + 12345, with overflow, xor itself shifted right by 16 with zeros", without ints. */
    private static int hash(int x, int y) {
        BigInteger wide = BigInteger.valueOf(x).multiply(BigInteger.valueOf(31)).add(BigInteger.valueOf(y))
                .multiply(BigInteger.valueOf(1103515245)).add(BigInteger.valueOf(12345))
                .mod(BigInteger.ONE.shiftLeft(32));
        return wide.xor(wide.shiftRight(16)).intValue();
    }

    /** "bytes multiplied as polynomials modulo 285": the whole product first, then what is left of it. */
    private static int product(int one, int other) {
        int all = 0;
        for (int bit = 0; bit < 8; bit++) {
            all ^= (other >> bit & 1) * (one << bit);
        }
        for (int bit = 15; bit >= 8; bit--) {
            all ^= (all >> bit & 1) * (285 << bit - 8);
        }
        return all;
    }

    private static int[] sixValues(int values) {
        int[] all = new int[6];
        for (int i = 0; i < 4; i++) {
            all[i] = values >>> 8 * i & 255;
            all[4] ^= all[i];
            all[5] ^= product(all[i], 1 << i);
        }
        return all;
    }

    private static int[] leaves(int values) {
        int[] row = new int[8];
        int[] all = sixValues(values);
        for (int i = 0; i < 6; i++) {
            row[i] = hash(all[i], i);
        }
        return row;
    }

    private static int[] above(int[] row) {
        int[] next = new int[row.length / 2];
        for (int i = 0; i < next.length; i++) {
            next[i] = hash(row[2 * i], row[2 * i + 1]);
        }
        return next;
    }

    // ---- file

    /** "there is no such peer, file or piece": of no files. */
    private static void noFilesAtFirst() {
        PeerStores x = PeersTest.star(0, 1);
        check.fails("8: root", NO_SUCH, () -> x.root(0));
        check.fails("8: fetch", NO_SUCH, () -> x.fetch(0, 0));
        check.fails("8: piece", NO_SUCH, () -> x.piece(0, 0, 0));
        check.same("8: the first number", x.file(0, 0), 0);
        check.same("8: the file 0 is there", x.piece(0, 0, 0), 0);
        check.fails("8: the file 1 is not", NO_SUCH, () -> x.root(1));
    }

    /** "Files are numbered from 0, at most 12"; "or there are 12" */
    private static void twelveFiles() {
        PeerStores x = PeersTest.star(0, 1);
        for (int i = 0; i < 11; i++) {
            check.same("8: number", x.file(i % 2, i), i);
        }
        check.fails("8: 11 is none yet", NO_SUCH, () -> x.root(11));
        check.same("8: the twelfth", x.file(0, 200), 11);
        check.same("8: it is there", x.piece(11, 0, 0), 200);
        check.same("8: the first one too", x.piece(10, 0, 0), 10);
        check.fails("8: no thirteenth", NOT_NOW, () -> x.file(0, 0));
        check.fails("8: nor of another owner", NOT_NOW, () -> x.file(1, 0));
        check.fails("8: 12 is none", NO_SUCH, () -> x.root(12));
    }

    /** "if the owner is not online"; "as told" */
    private static void fileOfOneAway() {
        PeerStores x = PeersTest.star(0, 1);
        x.turn(0, false);
        check.fails("8: away", NOT_NOW, () -> x.file(0, 0));
        check.fails("8: one behind the last peer", NO_SUCH, () -> x.file(2, 0));
        check.fails("8: -1", NO_SUCH, () -> x.file(-1, 0));
        check.fails("8: the greatest int", NO_SUCH, () -> x.file(GREATEST, 0));
        x.turn(0, true);
        check.same("8: the number is not lost", x.file(0, 0), 0);
    }

    /** "four values, 0 to 255, d0 to d3"; "four bytes, d0 lowest" */
    private static void valuesOfFourBytes() {
        PeerStores x = PeersTest.strangers(0);
        for (int file = 0; file < EDGE_VALUES.length; file++) {
            x.file(0, EDGE_VALUES[file]);
            int[] due = sixValues(EDGE_VALUES[file]);
            for (int piece = 0; piece < 6; piece++) {
                check.same("9: of " + EDGE_VALUES[file], x.piece(file, piece, 0), due[piece]);
            }
        }
        check.same("9: d3 of -1", x.piece(1, 3, 0), 255);
        check.same("9: d3 of the least int", x.piece(2, 3, 0), 128);
        check.same("9: d3 of the greatest int", x.piece(3, 3, 0), 127);
        check.same("9: p0 of the greatest int", x.piece(3, 4, 0), 128);
        check.same("9: p1 of -1", x.piece(1, 5, 0), product(255, 15));
    }

    /** "p1 is d0 xor 2 * d1 xor 4 * d2 xor 8 * d3": the last ones below 256, and the first ones that wrap around. */
    private static void productsAtTheWrap() {
        PeerStores x = PeersTest.strangers(0);
        int[] values = {255, 127 << 8, 128 << 8, 63 << 16, 64 << 16, 31 << 24, 32 << 24};
        int[] due = {255, 254, 29, 252, 29, 248, 29};
        for (int file = 0; file < values.length; file++) {
            x.file(0, values[file]);
            check.same("9: p1 of " + values[file], x.piece(file, 5, 0), due[file]);
        }
    }

    /** The same, of all bytes in each place. */
    private static void productsOfAll() {
        for (int first = 0; first < 256; first += 4) {
            PeerStores x = PeersTest.strangers(0);
            for (int file = 0; file < 12; file++) {
                int place = file / 4 + 1;
                int value = first + file % 4;
                x.file(0, value << 8 * place);
                check.same("9: p1", x.piece(file, 5, 0), product(value, 1 << place));
                check.same("9: p0", x.piece(file, 4, 0), value);
            }
        }
    }

    /** "if there is none, the piece is not held": the result is empty. */
    private static void holdersOfNone() {
        PeerStores x = PeersTest.strangers(0, 1);
        x.file(0, 5);
        check.same("8: without others", held(x, 0), 0);
        PeerStores y = PeersTest.star(0, 1);
        y.turn(1, false);
        y.file(0, 5);
        check.same("8: with one away", held(y, 0), 0);
        check.same("8: who is asked", y.asked(), 1);
        PeerStores z = new PeerStores();
        z.peer(0, 0, -1);
        z.peer(1, 1, 0);
        z.file(0, 5);
        check.same("8: with a silent one", held(z, 0), 0);
    }

    /** "the first one that is not the owner, and holds no piece of this file": of one, and of six. */
    private static void holdersOfOne() {
        PeerStores x = PeersTest.star(0, 1);
        x.file(0, 5);
        check.same("8: the first piece", x.piece(0, 0, 1), 1);
        check.same("8: that one alone", held(x, 0), 1);
        check.same("8: of another file one more", x.file(0, 6), 1);
        check.same("8: the first piece of it", x.piece(1, 0, 1), 1);
        check.same("8: that one alone", held(x, 1), 1);
        x.file(1, 5);
        check.same("8: by the peer 0, for the other owner", x.piece(2, 0, 1), 0);
        int seen = 0;
        PeerStores y = eight();
        for (int piece = 0; piece < 6; piece++) {
            seen |= 1 << y.piece(0, piece, 1);
        }
        check.same("8: six hold one each", Integer.bitCount(seen), 6);
        check.same("8: the owner none", seen & 1, 0);
    }

    /** "of the result the first one": three hold three; a fourth, who is free and answered, is not in the result. */
    private static void holdersOfTheResult() {
        int values = 0;
        for (int piece = 0; piece < 4; piece++) {
            int value = 0;
            while ((hash(value, piece) & 255) >= 128) {
                value++;
            }
            values |= value << 8 * piece;
        }
        PeerStores x = PeersTest.star(0, 1, 2, 3, 128);
        PeerStores twin = PeersTest.star(0, 1, 2, 3, 128);
        x.file(0, values);
        int[] leaves = leaves(values);
        int seen = 0;
        for (int piece = 0; piece < 3; piece++) {
            int holder = x.piece(0, piece, 1);
            boolean isClosest = true;
            for (int other = 1; other <= 3; other++) {
                int distance = (leaves[piece] & 255) ^ other;
                isClosest &= (seen >> other & 1) == 1 || ((leaves[piece] & 255) ^ holder) <= distance;
            }
            check.same("8: the closest free one", isClosest, true);
            seen |= 1 << holder;
        }
        check.same("8: the three that are near", seen, 2 + 4 + 8);
        check.same("8: the fourth piece is not held", x.piece(0, 3, 1), -1);
        twin.lookup(0, leaves[3] & 255, 2);
        check.same("8: though all four answer", twin.asked(), 4);
    }

    /** "looks up the key of each piece, in order, two ways": so that all four are asked, of whom one is there. */
    private static void holdersByTwoWays() {
        for (int there = 1; there <= 4; there++) {
            PeerStores x = PeersTest.star(0, 1, 2, 4, 8);
            for (int other = 1; other <= 4; other++) {
                x.turn(other, other == there);
            }
            for (int file = 0; file < 12; file++) {
                x.file(0, 21 * file);
                check.same("8: the one that is there", x.piece(file, 0, 1), there);
                check.same("6: all are asked", x.asked(), 4);
            }
        }
    }

    /** "One of a band takes the piece, but does not keep it; an honest one does." */
    private static void holdersOfTheBand() {
        for (int sort = 0; sort <= 2; sort += 2) {
            PeerStores x = new PeerStores();
            x.peer(0, 0, -1);
            x.peer(1, sort, 0);
            x.file(0, 5);
            check.same("8: takes it", x.piece(0, 0, 1), 1);
            check.same("8: keeps it", x.piece(0, 0, 2), sort == 0 ? 1 : 0);
            check.same("8: misses nothing yet", x.piece(0, 0, 3), 0);
        }
    }

    /** "The key of a piece is the lowest 8 bits of its leaf": of leaves above and below 0. */
    private static void keysOfNegativeLeaves() {
        int below = 0;
        for (int values : EDGE_VALUES) {
            PeerStores x = PeersTest.star(0, 128, 1);
            x.file(0, values);
            int[] leaves = leaves(values);
            below += leaves[0] < 0 ? 1 : 0;
            check.same("8: the holder of " + values, x.piece(0, 0, 1), (leaves[0] & 255) < 128 ? 2 : 1);
        }
        check.same("8: some of both", below > 0 && below < EDGE_VALUES.length, true);
    }

    /** The same, bit by bit: of two others that differ in one bit the one with the key's bit is closer. */
    private static void keysOfEightBits() {
        for (int bit = 0; bit < 8; bit++) {
            int seen = 0;
            for (int values = 0; values < 8; values++) {
                int id = 1 << (bit + 1) % 8;
                PeerStores x = PeersTest.star(0, id, id | 1 << bit);
                x.file(0, values);
                int key = leaves(values)[0] >> bit & 1;
                check.same("8: bit " + bit + " of the key of " + values, x.piece(0, 0, 1), 1 + key);
                seen |= 1 << key;
            }
            check.same("8: both are seen", seen, 3);
        }
    }

    // ---- piece, spoil

    /** "0 its value, 1 its holder, ... 2 whether the holder keeps it (1), 3 its misses in a row" */
    private static void whatIsKnown() {
        PeerStores x = eight();
        check.same("9: what 0", x.piece(0, 5, 0), sixValues(0x01020304)[5]);
        check.same("9: what 1", x.piece(0, 5, 1) > 0, true);
        check.same("9: what 2", x.piece(0, 5, 2), 1);
        check.same("9: what 3", x.piece(0, 5, 3), 0);
        check.fails("9: what 4", BAD, () -> x.piece(0, 5, 4));
        check.fails("9: what -1", BAD, () -> x.piece(0, 5, -1));
        check.fails("9: the least int", BAD, () -> x.piece(0, 0, LEAST));
        check.fails("9: the greatest int", BAD, () -> x.piece(0, 0, GREATEST));
        check.fails("9: piece 6", NO_SUCH, () -> x.piece(0, 6, 0));
        check.fails("9: piece -1", NO_SUCH, () -> x.piece(0, -1, 0));
        check.fails("9: piece of the greatest int", NO_SUCH, () -> x.piece(0, GREATEST, 0));
        check.fails("9: file 1", NO_SUCH, () -> x.piece(1, 0, 0));
        check.fails("9: file -1", NO_SUCH, () -> x.piece(-1, 0, 0));
    }

    /** "-1 if it is not held, ... 0 if it is not held" */
    private static void whatIsKnownOfNoHolder() {
        PeerStores x = PeersTest.strangers(0);
        x.file(0, -1);
        PeerStores y = PeersTest.star(0, 1);
        y.file(0, -1);
        y.spoil(0, 0);
        passDays(y, 3);
        for (int piece = 0; piece < 6; piece++) {
            check.same("9: never held", x.piece(0, piece, 1), -1);
            check.same("9: nor kept", x.piece(0, piece, 2), 0);
            check.same("9: nor missed", x.piece(0, piece, 3), 0);
            check.same("9: held no more", y.piece(0, piece, 1), -1);
            check.same("9: nor kept", y.piece(0, piece, 2), 0);
            check.same("9: nor missed", y.piece(0, piece, 3), 0);
        }
        check.same("9: its value is known", x.piece(0, 0, 0), 255);
    }

    /** "Returns whether it kept it." */
    private static void spoiledTwice() {
        PeerStores x = eight();
        for (int piece = 0; piece < 6; piece += 5) {
            check.same("10: kept", x.spoil(0, piece), true);
            check.same("10: no more", x.spoil(0, piece), false);
            check.same("10: it is held all the same", x.piece(0, piece, 1) > 0, true);
        }
        PeerStores y = new PeerStores();
        y.peer(0, 0, -1);
        y.peer(1, 2, 0);
        y.file(0, 1);
        check.same("10: one of a band never did", y.spoil(0, 0), false);
    }

    /** "if it is not held"; "of the file, or the piece 0 to 5" */
    private static void spoiledOfNobody() {
        PeerStores x = PeersTest.star(0, 1);
        x.file(0, 5);
        check.fails("10: never held", NOT_NOW, () -> x.spoil(0, 1));
        check.fails("10: piece 5, never held", NOT_NOW, () -> x.spoil(0, 5));
        check.fails("10: piece 6", NO_SUCH, () -> x.spoil(0, 6));
        check.fails("10: piece -1", NO_SUCH, () -> x.spoil(0, -1));
        check.fails("10: file 1", NO_SUCH, () -> x.spoil(1, 0));
        check.fails("10: file -1", NO_SUCH, () -> x.spoil(-1, 0));
        check.same("10: held", x.spoil(0, 0), true);
        passDays(x, 3);
        check.fails("10: held no more", NOT_NOW, () -> x.spoil(0, 0));
    }

    /** "Lets a holder throw a piece away": though it is away. */
    private static void spoiledOfOneAway() {
        PeerStores x = PeersTest.star(0, 1);
        x.file(0, 5);
        x.turn(1, false);
        check.same("10: it kept it while it was away", x.spoil(0, 0), true);
        x.turn(1, true);
        check.same("10: and does not when it comes", x.piece(0, 0, 2), 0);
    }

    // ---- root, proof, isProved, mend

    /** "with overflow, xor itself shifted right by 16 with zeros": all rows of trees of edge values. */
    private static void hashesThatOverflow() {
        PeerStores x = PeersTest.strangers(0);
        int negative = 0;
        for (int file = 0; file < EDGE_VALUES.length; file++) {
            x.file(0, EDGE_VALUES[file]);
            int[] row = leaves(EDGE_VALUES[file]);
            for (int level = 0; level < 3; level++) {
                for (int piece = 0; piece < 6; piece++) {
                    check.same("12: neighbour", x.proof(file, piece, level), row[piece >> level ^ 1]);
                    negative += row[piece >> level] < 0 ? 1 : 0;
                }
                row = above(row);
            }
            check.same("11: root", x.root(file), row[0]);
        }
        check.same("12: some are negative, so that zeros are shifted in", negative > 0, true);
        check.fails("11: 12 files", NO_SUCH, () -> x.root(12));
        check.fails("11: -1", NO_SUCH, () -> x.root(-1));
        check.fails("11: the least int", NO_SUCH, () -> x.root(LEAST));
        check.same("11: the last file", x.root(11), -1256628090);
    }

    /** "A leaf is the hash of a piece's value and its number": of 0 and 0, by hand. */
    private static void leafOfZeros() {
        PeerStores x = PeersTest.strangers(0);
        x.file(0, 0);
        check.same("12: (0 * 31 + 0) * 1103515245 + 12345", x.proof(0, 1, 0), 12345);
        int one = 1103515245 + 12345;
        check.same("12: (0 * 31 + 1) * 1103515245 + 12345", x.proof(0, 0, 0), one ^ one >>> 16);
        // 31 * 1103515245 + 12345 is 34208984940, which is more than 2 to the power of 32.
        x.file(0, 1);
        long wide = 31L * 1103515245 + 12345;
        int left = (int) (wide % (1L << 32));
        check.same("12: of 1 and 0", x.proof(1, 1, 0), left ^ left >>> 16);
    }

    /** "six leaves and two zeros are the lowest row of a tree" */
    private static void twoZeros() {
        PeerStores x = PeersTest.strangers(0);
        for (int file = 0; file < EDGE_VALUES.length; file++) {
            x.file(0, EDGE_VALUES[file]);
            check.same("12: the hash of two zeros", x.proof(file, 4, 1), 12345);
            check.same("12: beside the last two", x.proof(file, 5, 1), 12345);
        }
    }

    /** "row: 0 for the lowest row, to 2"; "the three neighbours on the way up" */
    private static void rowsOfAProof() {
        PeerStores x = PeersTest.strangers(0);
        x.file(0, 0x12345678);
        int[] low = leaves(0x12345678);
        int[] middle = above(low);
        int[] high = above(middle);
        check.same("12: piece 0, row 0", x.proof(0, 0, 0), low[1]);
        check.same("12: piece 0, row 2", x.proof(0, 0, 2), high[1]);
        check.same("12: piece 3, row 1", x.proof(0, 3, 1), middle[0]);
        check.same("12: piece 5, row 0", x.proof(0, 5, 0), low[4]);
        check.same("12: piece 5, row 2", x.proof(0, 5, 2), high[0]);
        check.fails("12: row 3", BAD, () -> x.proof(0, 5, 3));
        check.fails("12: row -1", BAD, () -> x.proof(0, 0, -1));
        check.fails("12: row of the least int", BAD, () -> x.proof(0, 0, LEAST));
        check.fails("12: row of the greatest int", BAD, () -> x.proof(0, 0, GREATEST));
        check.fails("12: piece 6", NO_SUCH, () -> x.proof(0, 6, 0));
        check.fails("12: piece 7, a zero", NO_SUCH, () -> x.proof(0, 7, 0));
        check.fails("12: piece -1", NO_SUCH, () -> x.proof(0, -1, 0));
        check.fails("12: file 1", NO_SUCH, () -> x.proof(1, 0, 0));
    }

    /** "value: 0 to 255" */
    private static void provedValues() {
        PeerStores x = PeersTest.strangers(0);
        x.file(0, 0xFF0000FF);
        int[] values = sixValues(0xFF0000FF);
        check.same("9: edges", values[0] == 255 && values[1] == 0 && values[3] == 255 && values[4] == 0, true);
        for (int piece = 0; piece < 6; piece++) {
            int value = values[piece];
            int number = piece;
            int first = x.proof(0, piece, 0);
            int second = x.proof(0, piece, 1);
            int third = x.proof(0, piece, 2);
            check.same("13: right", x.isProved(0, piece, value, first, second, third), true);
            check.same("13: the other edge", x.isProved(0, piece, 255 - value, first, second, third), false);
            check.fails("13: -1", BAD, () -> x.isProved(0, number, -1, first, second, third));
            check.fails("13: 256", BAD, () -> x.isProved(0, number, 256, first, second, third));
            check.fails("13: 256 more", BAD, () -> x.isProved(0, number, value + 256, first, second, third));
            check.fails("13: the least int", BAD, () -> x.isProved(0, number, LEAST, first, second, third));
        }
        check.fails("13: piece 6", NO_SUCH, () -> x.isProved(0, 6, 0, 0, 0, 0));
        check.fails("13: piece 6, a zero of the lowest row", NO_SUCH, () -> x.isProved(0, 6, 0, 0, 0, x.root(0)));
        check.fails("13: piece -1", NO_SUCH, () -> x.isProved(0, -1, 0, 0, 0, 0));
        check.fails("13: file 1", NO_SUCH, () -> x.isProved(1, 0, 0, 0, 0, 0));
        check.fails("13: file -1", NO_SUCH, () -> x.isProved(-1, 0, 0, 0, 0, 0));
    }

    /** "with three neighbours": any ints. */
    private static void provedByAnyInts() {
        PeerStores x = PeersTest.strangers(0);
        x.file(0, 7);
        int[] any = {LEAST, -1, 0, 1, GREATEST};
        for (int first : any) {
            for (int second : any) {
                for (int third : any) {
                    check.same("13: wrong", x.isProved(0, 0, 7, first, second, third), false);
                }
            }
        }
        check.same("13: right", x.isProved(0, 0, 7, x.proof(0, 0, 0), x.proof(0, 0, 1), x.proof(0, 0, 2)), true);
        check.same("13: as one of another place",
                x.isProved(0, 1, 7, x.proof(0, 0, 0), x.proof(0, 0, 1), x.proof(0, 0, 2)), false);
    }

    /** "If at least four pieces are known, all are": every set of four, of five, and all six. */
    private static void mendedByFour() {
        for (int values : EDGE_VALUES) {
            PeerStores x = PeersTest.strangers(0);
            x.file(0, values);
            int sets = 0;
            for (int set = 0; set < 64; set++) {
                if (Integer.bitCount(set) >= 4) {
                    check.same("14: from the set " + set, x.mend(0, set), values);
                    sets++;
                }
            }
            check.same("14: sets", sets, 15 + 6 + 1);
        }
    }

    /** "a set of bits of pieces, 0 to 63"; "or of fewer than four" */
    private static void mendedByFewer() {
        PeerStores x = eight();
        int sets = 0;
        for (int i = 0; i < 64; i++) {
            int set = i;
            if (Integer.bitCount(set) < 4) {
                check.fails("14: from the set " + set, BAD, () -> x.mend(0, set));
                sets++;
            }
        }
        check.same("14: sets", sets, 1 + 6 + 15 + 20);
        check.fails("14: -1", BAD, () -> x.mend(0, -1));
        check.fails("14: 64", BAD, () -> x.mend(0, 64));
        check.fails("14: 127, of six and one more", BAD, () -> x.mend(0, 127));
        check.fails("14: the least int", BAD, () -> x.mend(0, LEAST));
        check.fails("14: the greatest int", BAD, () -> x.mend(0, GREATEST));
        check.fails("14: file 1", NO_SUCH, () -> x.mend(1, 63));
        check.fails("14: file -1", NO_SUCH, () -> x.mend(-1, 63));
        check.same("14: 63", x.mend(0, 63), 0x01020304);
        check.same("14: 15", x.mend(0, 15), 0x01020304);
        check.same("14: 60", x.mend(0, 60), 0x01020304);
    }

    // ---- fetch

    /** "it has it if it gets at least 4 pieces"; "pieces are asked for in order until there are 4" */
    private static void fetchedOfFour() {
        for (int lost = 0; lost <= 6; lost++) {
            PeerStores x = eight();
            int fetcher = spare(x);
            // By turns a piece is thrown away, or its holder goes.
            for (int piece = 0; piece < lost; piece++) {
                if (piece % 2 == 0) {
                    x.spoil(0, piece);
                } else {
                    x.turn(x.piece(0, piece, 1), false);
                }
            }
            boolean isHad = lost <= 2;
            check.same("15: pieces that are lost " + lost, x.fetch(fetcher, 0), isHad ? 4 : 0);
            for (int piece = 0; piece < 6; piece++) {
                boolean isAsked = isHad && piece >= lost && piece < lost + 4;
                check.same("15: owed for piece " + piece, x.owes(fetcher, x.piece(0, piece, 1)), isAsked ? 1 : 0);
            }
            check.same("15: all that is owed", x.worth(fetcher), isHad ? -4 : 0);
        }
    }

    /** "or the peer is the owner": 0, though there are six holders, or none. */
    private static void fetchedByTheOwner() {
        PeerStores x = eight();
        check.same("15: of six", x.fetch(0, 0), 0);
        check.same("15: nothing is owed", x.worth(0), 0);
        PeerStores y = PeersTest.strangers(0, 1);
        y.file(0, 0);
        check.same("15: of none", y.fetch(0, 0), 0);
        check.same("15: another one", y.fetch(1, 0), 0);
        y.turn(0, false);
        check.fails("15: the owner is away", NOT_NOW, () -> y.fetch(0, 0));
        check.same("15: an owner away is not asked", y.fetch(1, 0), 0);
    }

    /** "(but not by itself)" */
    private static void fetchedByAHolder() {
        PeerStores x = eight();
        for (int piece = 0; piece < 6; piece++) {
            int holder = x.piece(0, piece, 1);
            check.same("15: by the holder of piece " + piece, x.fetch(holder, 0), 4);
            check.same("15: it owes itself nothing", x.owes(holder, holder), 0);
        }
        // Each of the first four is paid by all five others, and pays three; the last two pay four.
        for (int piece = 0; piece < 6; piece++) {
            check.same("15: worth", x.worth(x.piece(0, piece, 1)), piece < 4 ? 5 - 3 : -4);
        }
        PeerStores y = eight();
        y.spoil(0, 4);
        y.spoil(0, 5);
        check.same("15: the own one is one of four", y.fetch(y.piece(0, 0, 1), 0), 4);
        y.spoil(0, 0);
        check.same("15: three others are not enough", y.fetch(y.piece(0, 0, 1), 0), 0);
    }

    /** "as told, of the peer or the file"; "if the peer is not online" */
    private static void fetchedByNumbers() {
        PeerStores x = eight();
        int fetcher = spare(x);
        check.fails("15: peer 8", NO_SUCH, () -> x.fetch(8, 0));
        check.fails("15: peer -1", NO_SUCH, () -> x.fetch(-1, 0));
        check.fails("15: file 1", NO_SUCH, () -> x.fetch(fetcher, 1));
        check.fails("15: file -1", NO_SUCH, () -> x.fetch(fetcher, -1));
        x.turn(fetcher, false);
        check.fails("15: away", NOT_NOW, () -> x.fetch(fetcher, 0));
        check.fails("15: away, of file 1", NO_SUCH, () -> x.fetch(fetcher, 1));
        x.turn(fetcher, true);
        check.same("15: there again, and nothing owed", x.worth(fetcher), 0);
    }

    /** "0 if it cannot be had (nothing is owed then)" */
    private static void fetchedWithoutDebts() {
        PeerStores x = PeersTest.star(0, 1, 2, 3);
        x.file(0, 5);
        check.same("15: three hold three", held(x, 0), 3);
        check.same("15: that are not enough", x.fetch(1, 0), 0);
        check.same("15: nothing is owed", x.worth(1) * x.worth(1) + x.worth(2) * x.worth(2), 0);
        PeerStores y = eight();
        int fetcher = spare(y);
        y.fetch(fetcher, 0);
        y.fetch(fetcher, 0);
        check.same("15: twice", y.worth(fetcher), -8);
        for (int piece = 3; piece < 6; piece++) {
            y.spoil(0, piece);
        }
        check.same("15: then not", y.fetch(fetcher, 0), 0);
        check.same("15: no more is owed", y.worth(fetcher), -8);
    }

    // ---- pass

    /** "if it would be behind the day 500"; "Returns the day then." */
    private static void fiveHundredDays() {
        PeerStores x = new PeerStores();
        for (int day = 1; day <= 500; day++) {
            check.same("16: day", x.pass(), day);
        }
        for (int i = 0; i < 3; i++) {
            check.fails("16: the day 501", NOT_NOW, x::pass);
        }
    }

    /** "When a call throws, nothing has changed": no pay, no misses, no repair on the day 501. */
    private static void nothingBehindTheLastDay() {
        PeerStores x = PeersTest.star(0, 1);
        x.file(0, 5);
        passDays(x, 500);
        check.same("16: 500 days are paid for", x.owes(0, 1), 1500);
        check.fails("16: the day 501", NOT_NOW, x::pass);
        check.same("16: it is not paid for", x.owes(0, 1), 1500);
        x.turn(1, false);
        check.fails("16: nor is anybody challenged", NOT_NOW, x::pass);
        check.same("16: nothing is missed", x.piece(0, 0, 3), 0);
    }

    /** "with 3 misses in a row it owes the owner 10 more, and the piece is not held by it any more" */
    private static void threeMisses() {
        PeerStores x = PeersTest.star(0, 1);
        x.file(0, 5);
        x.turn(1, false);
        for (int miss = 1; miss <= 2; miss++) {
            x.pass();
            check.same("16: misses", x.piece(0, 0, 3), miss);
            check.same("16: held yet", x.piece(0, 0, 1), 1);
            check.same("16: kept yet", x.piece(0, 0, 2), 1);
            check.same("16: nothing is owed yet", x.owes(1, 0), 0);
        }
        x.pass();
        check.same("16: no more held", x.piece(0, 0, 1), -1);
        check.same("16: nor kept, though it was not thrown away", x.piece(0, 0, 2), 0);
        check.same("16: no misses then", x.piece(0, 0, 3), 0);
        check.same("16: the stake", x.owes(1, 0), 10);
        check.same("16: and no pay", x.owes(0, 1), 0);
        passDays(x, 4);
        check.same("16: the stake once", x.owes(1, 0), 10);
    }

    /** "One of a band takes the piece, but does not keep it": it misses from the first day on. */
    private static void threeMissesOfTheBand() {
        PeerStores x = new PeerStores();
        x.peer(0, 0, -1);
        x.peer(1, 2, 0);
        x.file(0, 5);
        passDays(x, 2);
        check.same("16: two misses", x.piece(0, 0, 3), 2);
        check.same("16: no pay", x.owes(0, 1), 0);
        x.pass();
        check.same("16: the third", x.piece(0, 0, 1), -1);
        check.same("16: the stake", x.owes(1, 0), 10);
    }

    /** "and its misses are 0": two, one rightly answered, two. */
    private static void missesBrokenInTwo() {
        PeerStores x = PeersTest.star(0, 1);
        x.file(0, 5);
        int[] due = {1, 2, 0, 1, 2, 0};
        for (int day = 0; day < due.length; day++) {
            x.turn(1, due[day] == 0);
            x.pass();
            check.same("16: misses of day " + day, x.piece(0, 0, 3), due[day]);
        }
        check.same("16: no stake", x.owes(1, 0), 0);
        check.same("16: two days are paid for", x.owes(0, 1), 6);
        check.same("16: held", x.piece(0, 0, 1), 1);
    }

    /** "if the owner is online": neither paid nor missed otherwise. */
    private static void challengesOfAnOwnerAway() {
        PeerStores x = PeersTest.star(0, 1);
        x.file(0, 5);
        x.turn(0, false);
        x.pass();
        check.same("16: no pay", x.owes(0, 1), 0);
        x.turn(1, false);
        passDays(x, 5);
        check.same("16: no misses", x.piece(0, 0, 3), 0);
        x.turn(0, true);
        passDays(x, 2);
        x.turn(0, false);
        x.pass();
        check.same("16: two misses stay two", x.piece(0, 0, 3), 2);
        x.turn(0, true);
        x.pass();
        check.same("16: the third in a row of challenges", x.piece(0, 0, 1), -1);
    }

    /** Throws pieces away, and lets three days pass, so that they are held no more. */
    private static PeerStores lost(int... pieces) {
        PeerStores x = eight();
        for (int piece : pieces) {
            x.spoil(0, piece);
        }
        passDays(x, 3);
        return x;
    }

    /** "if at most 4 pieces are held": five wait. */
    private static void repairOfFive() {
        for (int piece = 0; piece < 6; piece += 5) {
            PeerStores x = lost(piece);
            check.same("16: five are held", held(x, 0), 5);
            int asked = x.asked();
            passDays(x, 10);
            check.same("16: for ever", held(x, 0), 5);
            check.same("16: and nobody is asked", x.asked(), asked);
        }
    }

    /** The same: four, of which four are kept and online, are enough, on the very day. */
    private static void repairOfFour() {
        int[][] pairs = {{0, 1}, {0, 5}, {2, 3}, {4, 5}};
        for (int[] pair : pairs) {
            PeerStores x = lost(pair);
            check.same("16: all six are held", held(x, 0), 6);
            for (int piece : pair) {
                check.same("16: kept", x.piece(0, piece, 2), 1);
                check.same("16: without misses", x.piece(0, piece, 3), 0);
            }
            check.same("16: two stakes less four a day", x.worth(0), 20 - 3 * 3 * 4);
            x.pass();
            check.same("16: then six a day", x.worth(0), 20 - 3 * 3 * 4 - 3 * 6);
        }
    }

    /** "of those that are held at least 4": three are held, and nothing is stored. */
    private static void repairOfThree() {
        PeerStores x = lost(0, 1, 2);
        check.same("16: three are held", held(x, 0), 3);
        passDays(x, 10);
        check.same("16: for ever", held(x, 0), 3);
        PeerStores y = lost(0, 1, 2, 3, 4, 5);
        check.same("16: none is held", held(y, 0), 0);
        passDays(y, 3);
        check.same("16: nor stored", held(y, 0), 0);
    }

    /** "are kept by holders that are online": one of four is away. */
    private static void repairOfFourNotOnline() {
        PeerStores x = eight();
        x.spoil(0, 0);
        x.spoil(0, 1);
        passDays(x, 2);
        int away = x.piece(0, 5, 1);
        x.turn(away, false);
        x.pass();
        check.same("16: four are held, three online", held(x, 0), 4);
        x.turn(away, true);
        check.same("16: coming alone stores nothing", held(x, 0), 4);
        x.pass();
        check.same("16: the next day does", held(x, 0), 6);
    }

    /** "are kept": one of four has thrown it away that day. */
    private static void repairOfFourNotKept() {
        PeerStores x = eight();
        x.spoil(0, 0);
        x.spoil(0, 1);
        passDays(x, 2);
        x.spoil(0, 5);
        x.pass();
        check.same("16: four are held, three kept", held(x, 0), 4);
        passDays(x, 2);
        check.same("16: then three are held", held(x, 0), 3);
        passDays(x, 3);
        check.same("16: for ever", held(x, 0), 3);
    }

    /** "Then, for each file likewise": if the owner is online. */
    private static void repairOfAnOwnerAway() {
        PeerStores x = eight();
        x.spoil(0, 0);
        x.spoil(0, 1);
        passDays(x, 2);
        int away = x.piece(0, 5, 1);
        x.turn(away, false);
        x.pass();
        x.turn(away, true);
        x.turn(0, false);
        int asked = x.asked();
        passDays(x, 3);
        check.same("16: the owner is away", held(x, 0), 4);
        check.same("16: and asks nobody", x.asked(), asked);
        x.turn(0, true);
        x.pass();
        check.same("16: until it comes", held(x, 0), 6);
    }

    /** "if there is none, the piece is not held", of pieces stored anew: four others hold four. */
    private static void repairWithoutHolders() {
        PeerStores x = PeersTest.star(0, 1, 2, 4, 8);
        x.file(0, 0x01020304);
        check.same("16: four are held", held(x, 0), 4);
        x.peer(255, 0, -1);
        x.lookup(5, 0, 1);
        check.same("6: of nobody", x.asked(), 0);
        x.pass();
        check.same("16: four as ever", held(x, 0), 4);
        check.same("6: though they are asked for", x.asked() > 0, true);
        check.same("16: and paid", x.worth(0), -12);
    }

    /** "for each file by rising numbers": who asked last for its pieces is the last in a bucket of one asked. */
    private static void repairByRisingNumbers() {
        for (int first = 1; first <= 2; first++) {
            int second = 3 - first;
            PeerStores x = PeersTest.star(0, 4, 5, 1, 2);
            x.file(first, 0x01020304);
            x.file(second, 0x01020304);
            check.same("16: four hold four of each", held(x, 0) + held(x, 1), 8);
            x.lookup(second, 0, 2);
            x.lookup(first, 0, 2);
            check.same("4: the first file's owner was heard of last", x.bucket(0, 2, 1), first);
            x.pass();
            check.same("16: then the second file's owner asks last", x.bucket(0, 2, 1), second);
            check.same("16: and the first file's ahead of it", x.bucket(0, 2, 0), first);
        }
    }

    /** "What was thrown away is not kept again, but by one who comes to hold it anew" */
    private static void thrownAway() {
        PeerStores x = eight();
        int holder = x.piece(0, 0, 1);
        x.spoil(0, 0);
        x.turn(holder, false);
        x.turn(holder, true);
        check.same("16: coming again it has it not", x.piece(0, 0, 2), 0);
        x.turn(0, false);
        passDays(x, 10);
        check.same("16: nor after days", x.piece(0, 0, 2), 0);
        check.same("16: though it holds it", x.piece(0, 0, 1), holder);
        PeerStores y = eight();
        int other = spare(y);
        y.turn(other, false);
        int first = y.piece(0, 0, 1);
        int second = y.piece(0, 1, 1);
        y.spoil(0, 0);
        y.spoil(0, 1);
        passDays(y, 3);
        int now = y.piece(0, 0, 1);
        check.same("16: held anew by one of the two", now == first || now == second, true);
        check.same("16: and the other piece by the other one", y.piece(0, 1, 1), first + second - now);
        check.same("16: and kept", y.piece(0, 0, 2) + y.piece(0, 1, 2), 2);
        check.same("16: it can be thrown away anew", y.spoil(0, 0), true);
    }

    /** "a holder keeps a piece while it is not online" */
    private static void keptWhileAway() {
        PeerStores x = PeersTest.star(0, 1);
        x.file(0, 5);
        x.turn(1, false);
        passDays(x, 2);
        check.same("16: kept", x.piece(0, 0, 2), 1);
        x.turn(1, true);
        x.pass();
        check.same("16: it answers when it comes", x.owes(0, 1), 3);
    }
}
