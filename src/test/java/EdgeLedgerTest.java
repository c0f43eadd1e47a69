/** The boundary cases of promises 21 to 23: each test stands below the sentence of the document that it holds. */
public final class EdgeLedgerTest {
    private static final Class<?> NO_SUCH = IndexOutOfBoundsException.class;
    private static final Check check = new Check("EdgeLedgerTest");

    public static void main(String[] args) {
        owedByNumbers();
        owedToItself();
        owedEitherWay();
        owedAtTheMost();
        nettedOfNobody();
        nettedWithoutRings();
        ringOfTwo();
        ringOfTwoAtTheEnds();
        ringOfThree();
        ringOfThreeBackwards();
        ringOfThreeAtTheEnd();
        ringOfFour();
        ringsOfTwoAhead();
        ringsInOrder();
        ringsOneAfterAnother();
        nettedTwice();
        worthByNumbers();
        worthBothWays();
        worthIsNotNetted();
        check.finish();
    }

    /** Peers who all know one another, at most four; each pair (a, b) makes a owe b 3 more. */
    private static PeerStores debts(int peers, int... pairs) {
        int[] ids = {0, 1, 2, 3};
        PeerStores x = new PeerStores();
        for (int peer = 0; peer < peers; peer++) {
            x.peer(ids[peer], 0, peer == 0 ? -1 : 0);
        }
        owe(x, 0, peers, pairs);
        return x;
    }

    /** For each pair a file of the one is stored while the other one alone is there; then a day passes. */
    private static void owe(PeerStores x, int firstPeer, int lastPeer, int... pairs) {
        for (int i = 0; i + 1 < pairs.length; i += 2) {
            for (int peer = firstPeer; peer < lastPeer; peer++) {
                x.turn(peer, peer == pairs[i] || peer == pairs[i + 1]);
            }
            int file = x.file(pairs[i], 0);
            check.same("8: the one that is there holds it", x.piece(file, 0, 1), pairs[i + 1]);
        }
        for (int peer = firstPeer; peer < lastPeer; peer++) {
            x.turn(peer, true);
        }
        x.pass();
    }

    private static void owesAre(String what, PeerStores x, int... rows) {
        for (int i = 0; i + 2 < rows.length; i += 3) {
            check.same(what + ", " + rows[i] + " to " + rows[i + 1], x.owes(rows[i], rows[i + 1]), rows[i + 2]);
        }
    }

    // ---- owes

    /** "as told, of both" */
    private static void owedByNumbers() {
        PeerStores x = debts(2, 0, 1);
        check.same("21: the first and the last", x.owes(0, 1), 3);
        int[] none = {-1, 2, 15, 16, Integer.MIN_VALUE, Integer.MAX_VALUE};
        for (int no : none) {
            check.fails("21: peer " + no, NO_SUCH, () -> x.owes(no, 0));
            check.fails("21: other " + no, NO_SUCH, () -> x.owes(0, no));
            check.fails("21: both " + no, NO_SUCH, () -> x.owes(no, no));
        }
        check.fails("21: of nobody", NO_SUCH, () -> new PeerStores().owes(0, 0));
        PeerStores y = new PeerStores();
        for (int i = 0; i < 16; i++) {
            y.peer(i, 0, -1);
        }
        check.same("21: of sixteen", y.owes(15, 0) + y.owes(0, 15), 0);
        check.fails("21: 16 of sixteen", NO_SUCH, () -> y.owes(15, 16));
    }

    /** "what a peer owes another one": itself nothing, though it fetches what it holds. */
    private static void owedToItself() {
        PeerStores x = PeersTest.star(0, 1, 2, 4, 128, 200, 7, 64);
        x.file(0, 0x01020304);
        x.pass();
        for (int peer = 0; peer < 8; peer++) {
            x.fetch(peer, 0);
            check.same("21: itself", x.owes(peer, peer), 0);
        }
    }

    /** "is kept for each two, either way" */
    private static void owedEitherWay() {
        PeerStores x = debts(3, 0, 1, 1, 0, 1, 0, 2, 0);
        owesAre("21", x, 0, 1, 3, 1, 0, 6, 2, 0, 3, 0, 2, 0, 1, 2, 0, 2, 1, 0);
    }

    /** The same, for as many days as there are calls left: twelve files, each held by the same one. */
    private static void owedAtTheMost() {
        PeerStores x = PeersTest.star(0, 1);
        for (int file = 0; file < 12; file++) {
            x.file(0, file);
        }
        for (int day = 0; day < 495; day++) {
            x.pass();
        }
        check.same("21: 3 a day for each", x.owes(0, 1), 3 * 12 * 495);
        check.same("23: less than nothing", x.worth(0), -3 * 12 * 495);
        check.same("23: as much", x.worth(1), 3 * 12 * 495);
    }

    // ---- net

    /** "Returns by how much all debts together are less then.": of nobody, one, and two without debts. */
    private static void nettedOfNobody() {
        check.same("22: nobody", new PeerStores().net(), 0);
        check.same("22: one", PeersTest.strangers(0).net(), 0);
        check.same("22: two", PeersTest.star(0, 1).net(), 0);
    }

    /** "each of whom owes the next one, and the last one the first one, more than 0" */
    private static void nettedWithoutRings() {
        PeerStores x = debts(3, 0, 1, 1, 2);
        check.same("22: a row is no ring", x.net(), 0);
        owesAre("22: it stays", x, 0, 1, 3, 1, 2, 3);
        PeerStores y = debts(3, 0, 1, 1, 2, 0, 2);
        check.same("22: nor are two ways to one", y.net(), 0);
        owesAre("22: they stay", y, 0, 1, 3, 1, 2, 3, 0, 2, 3);
    }

    /** "each debt in it by the least of them": the first, the second, and both. */
    private static void ringOfTwo() {
        PeerStores x = debts(2, 0, 1, 1, 0);
        check.same("22: as much", x.net(), 6);
        owesAre("22: nothing is left", x, 0, 1, 0, 1, 0, 0);
        PeerStores y = debts(2, 0, 1, 1, 0, 1, 0);
        check.same("22: the first is less", y.net(), 6);
        owesAre("22: of the second something is left", y, 0, 1, 0, 1, 0, 3);
        PeerStores z = debts(2, 0, 1, 0, 1, 1, 0);
        check.same("22: the second is less", z.net(), 6);
        owesAre("22: of the first something is left", z, 0, 1, 3, 1, 0, 0);
        PeerStores away = debts(2, 0, 1, 1, 0);
        away.turn(0, false);
        away.turn(1, false);
        check.same("22: of those away too", away.net(), 6);
    }

    /** "a ring of two": of the first and the last peer of sixteen, and of the two last ones. */
    private static void ringOfTwoAtTheEnds() {
        PeerStores x = new PeerStores();
        for (int i = 0; i < 15; i++) {
            x.peer(16 + i, 0, -1);
        }
        x.peer(0, 0, 14);
        owe(x, 14, 16, 14, 15, 15, 14, 15, 14);
        check.same("22: the two last ones", x.net(), 6);
        owesAre("22: what is left", x, 14, 15, 0, 15, 14, 3);
        check.same("23: the fifteenth", x.worth(14), 3);
        check.same("23: the sixteenth", x.worth(15), -3);
        PeerStores y = new PeerStores();
        for (int i = 0; i < 15; i++) {
            y.peer(16 + i, 0, -1);
        }
        y.peer(0, 0, 0);
        owe(y, 0, 16, 0, 15, 15, 0, 0, 15);
        check.same("22: the first and the last", y.net(), 6);
        owesAre("22: what is left", y, 0, 15, 3, 15, 0, 0);
    }

    /** "a ring of ... three peers": each one's debt is the least once. */
    private static void ringOfThree() {
        PeerStores x = debts(3, 0, 1, 1, 2, 2, 0);
        check.same("22: all the same", x.net(), 9);
        owesAre("22: nothing is left", x, 0, 1, 0, 1, 2, 0, 2, 0, 0);
        PeerStores a = debts(3, 0, 1, 1, 2, 1, 2, 2, 0, 2, 0, 2, 0);
        check.same("22: the first is the least", a.net(), 9);
        owesAre("22: what is left", a, 0, 1, 0, 1, 2, 3, 2, 0, 6);
        PeerStores b = debts(3, 0, 1, 0, 1, 0, 1, 1, 2, 2, 0, 2, 0);
        check.same("22: the second is the least", b.net(), 9);
        owesAre("22: what is left", b, 0, 1, 6, 1, 2, 0, 2, 0, 3);
        PeerStores c = debts(3, 0, 1, 0, 1, 1, 2, 1, 2, 1, 2, 2, 0);
        check.same("22: the third is the least", c.net(), 9);
        owesAre("22: what is left", c, 0, 1, 3, 1, 2, 6, 2, 0, 0);
    }

    /** The same, the other way round: 0, 2, 1. */
    private static void ringOfThreeBackwards() {
        PeerStores x = debts(3, 0, 2, 2, 1, 2, 1, 1, 0, 1, 0, 1, 0);
        check.same("22: three times the least", x.net(), 9);
        owesAre("22: what is left", x, 0, 2, 0, 2, 1, 3, 1, 0, 6);
    }

    /** The same, of the last three of sixteen. */
    private static void ringOfThreeAtTheEnd() {
        for (int way = 0; way < 2; way++) {
            PeerStores x = new PeerStores();
            for (int i = 0; i < 14; i++) {
                x.peer(i == 13 ? 0 : 16 + i, 0, -1);
            }
            x.peer(1, 0, 13);
            x.peer(2, 0, 13);
            int second = 14 + way;
            int third = 15 - way;
            owe(x, 13, 16, 13, second, second, third, second, third, third, 13);
            check.same("22: the last three", x.net(), 9);
            owesAre("22: what is left", x, 13, second, 0, second, third, 3, third, 13, 0);
        }
    }

    /** "a ring of two or three peers": not of four. */
    private static void ringOfFour() {
        PeerStores x = debts(4, 0, 1, 1, 2, 2, 3, 3, 0);
        check.same("22: four", x.net(), 0);
        owesAre("22: all stays", x, 0, 1, 3, 1, 2, 3, 2, 3, 3, 3, 0, 3);
    }

    /** "those of two ahead of those of three" */
    private static void ringsOfTwoAhead() {
        PeerStores x = debts(3, 0, 1, 1, 2, 2, 0, 1, 0);
        check.same("22: two of lower numbers", x.net(), 6);
        owesAre("22: so that there is no ring of three", x, 0, 1, 0, 1, 0, 0, 1, 2, 3, 2, 0, 3);
        PeerStores y = debts(4, 0, 2, 2, 3, 3, 0, 3, 2);
        check.same("22: two of greater numbers", y.net(), 6);
        owesAre("22: so that there is no ring of three", y, 0, 2, 3, 2, 3, 0, 3, 0, 3, 3, 2, 0);
        PeerStores z = debts(3, 0, 1, 0, 1, 1, 2, 2, 0, 1, 0);
        check.same("22: what is left makes a ring of three", z.net(), 6 + 9);
        owesAre("22: nothing is left", z, 0, 1, 0, 1, 0, 0, 1, 2, 0, 2, 0, 0);
    }

    /** "the first ring, told as a row that begins with the lowest peer, rows being ordered by their numbers" */
    private static void ringsInOrder() {
        PeerStores a = debts(4, 0, 1, 1, 2, 2, 0, 1, 3, 3, 0);
        check.same("22: 0, 1, 2 ahead of 0, 1, 3", a.net(), 9);
        owesAre("22: of the latter", a, 1, 2, 0, 2, 0, 0, 1, 3, 3, 3, 0, 3);
        PeerStores b = debts(4, 0, 2, 2, 3, 3, 0, 0, 1, 1, 3);
        check.same("22: 0, 1, 3 ahead of 0, 2, 3", b.net(), 9);
        owesAre("22: of the latter", b, 0, 1, 0, 1, 3, 0, 0, 2, 3, 2, 3, 3);
        PeerStores c = debts(4, 1, 2, 2, 3, 3, 1, 0, 1, 2, 0);
        check.same("22: 0, 1, 2 ahead of 1, 2, 3", c.net(), 9);
        owesAre("22: of the latter", c, 0, 1, 0, 2, 0, 0, 2, 3, 3, 3, 1, 3);
        PeerStores d = debts(4, 1, 2, 2, 3, 3, 1, 0, 2, 3, 0);
        check.same("22: 0, 2, 3 ahead of 1, 2, 3", d.net(), 9);
        owesAre("22: of the latter", d, 0, 2, 0, 3, 0, 0, 1, 2, 3, 3, 1, 3);
        PeerStores e = debts(4, 0, 2, 2, 3, 3, 0, 2, 1, 1, 0);
        check.same("22: 0, 2, 1 ahead of 0, 2, 3", e.net(), 9);
        owesAre("22: of the latter", e, 2, 1, 0, 1, 0, 0, 2, 3, 3, 3, 0, 3);
        PeerStores f = debts(4, 0, 3, 3, 1, 1, 0, 0, 2, 2, 1);
        check.same("22: 0, 2, 1 ahead of 0, 3, 1", f.net(), 9);
        owesAre("22: of the latter", f, 0, 2, 0, 2, 1, 0, 0, 3, 3, 3, 1, 3);
    }

    /** "as long as there is a ring": more than one, with one debt in both. */
    private static void ringsOneAfterAnother() {
        PeerStores x = debts(4, 0, 1, 0, 1, 1, 2, 2, 0, 1, 3, 3, 0);
        check.same("22: two of three", x.net(), 18);
        owesAre("22: nothing is left", x, 0, 1, 0, 1, 2, 0, 2, 0, 0, 1, 3, 0, 3, 0, 0);
        PeerStores y = debts(4, 0, 1, 1, 0, 2, 3, 3, 2, 0, 3, 3, 0);
        check.same("22: three of two", y.net(), 18);
        owesAre("22: nothing is left", y, 0, 1, 0, 1, 0, 0, 2, 3, 0, 3, 2, 0, 0, 3, 0, 3, 0, 0);
    }

    /** "more than 0": what is made less to 0 is in no ring any more. */
    private static void nettedTwice() {
        PeerStores x = debts(3, 0, 1, 1, 0, 1, 0, 2, 1);
        check.same("22: once", x.net(), 6);
        check.same("22: no ring is left", x.net(), 0);
        owesAre("22: what is left", x, 0, 1, 0, 1, 0, 3, 2, 1, 3);
        x.pass();
        check.same("22: new debts make new rings", x.net(), 6);
        owesAre("22: what is left", x, 0, 1, 0, 1, 0, 6, 2, 1, 6);
    }

    // ---- worth

    /** "as told" */
    private static void worthByNumbers() {
        PeerStores x = debts(2, 0, 1);
        int[] none = {-1, 2, 15, 16, Integer.MIN_VALUE, Integer.MAX_VALUE};
        for (int no : none) {
            check.fails("23: peer " + no, NO_SUCH, () -> x.worth(no));
        }
        check.same("23: the first", x.worth(0), -3);
        check.same("23: the last", x.worth(1), 3);
        check.fails("23: of nobody", NO_SUCH, () -> new PeerStores().worth(0));
    }

    /** "what all owe a peer less what it owes all": nothing, less, more, as much. */
    private static void worthBothWays() {
        PeerStores x = debts(4, 0, 1, 0, 2, 1, 0, 3, 0, 3, 0);
        check.same("23: owed 9, owing 6", x.worth(0), 3);
        check.same("23: owed 3, owing 3", x.worth(1), 0);
        check.same("23: owed 3", x.worth(2), 3);
        check.same("23: owing 6", x.worth(3), -6);
        check.same("23: nothing", PeersTest.strangers(0).worth(0), 0);
    }

    /** The same, behind netting: both are less by as much. */
    private static void worthIsNotNetted() {
        PeerStores x = debts(4, 0, 1, 0, 2, 1, 0, 3, 0, 3, 0, 2, 3);
        check.same("22: a ring of two, one of three", x.net(), 6 + 9);
        check.same("23: as before", x.worth(0), 3);
        check.same("23: as before", x.worth(1), 0);
        check.same("23: as before", x.worth(2), 0);
        check.same("23: as before", x.worth(3), -3);
    }
}
