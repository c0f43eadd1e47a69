/** Promises 21 to 23: owes, net, worth. */
public final class LedgerTest {
    private static final Class<?> NO_SUCH = IndexOutOfBoundsException.class;
    private static final int[] UP = {1, 2, 0};
    private static final int[] DOWN = {2, 0, 1};
    private static final Check check = new Check("LedgerTest");

    public static void main(String[] args) {
        owes();
        netsNothing();
        netsTwo();
        netsThree();
        netsInOrder();
        worths();
        check.finish();
    }

    /** Five honest peers; the file of each one is held by the four others. */
    private static PeerStores five() {
        PeerStores x = PeersTest.star(0, 1, 2, 4, 8);
        for (int owner = 0; owner < 5; owner++) {
            x.file(owner, owner * 0x01010101);
        }
        return x;
    }

    private static void owes() {
        PeerStores x = PeersTest.star(0, 1);
        x.file(0, 0);
        check.same("21: nothing at first", x.owes(0, 1), 0);
        x.pass();
        x.pass();
        check.same("21: 3 a day", x.owes(0, 1), 6);
        check.same("21: not the other way", x.owes(1, 0), 0);
        check.same("21: nobody owes itself", x.owes(0, 0), 0);
        x.turn(1, false);
        for (int i = 0; i < 3; i++) {
            x.pass();
        }
        check.same("21: both ways are kept", x.owes(0, 1), 6);
        check.same("21: the stake", x.owes(1, 0), 10);
        check.fails("21: no such peer", NO_SUCH, () -> x.owes(2, 0));
        check.fails("21: no such other one", NO_SUCH, () -> x.owes(0, 2));
        check.fails("21: below 0", NO_SUCH, () -> x.owes(-1, 0));
        check.fails("21: the other one below 0", NO_SUCH, () -> x.owes(0, -1));
        check.fails("21: far out", NO_SUCH, () -> x.owes(16, Integer.MIN_VALUE));
    }

    private static void netsNothing() {
        PeerStores x = PeersTest.star(0, 1);
        check.same("22: without debts", x.net(), 0);
        x.file(0, 0);
        x.pass();
        check.same("22: no ring", x.net(), 0);
        check.same("22: so that the debt stays", x.owes(0, 1), 3);
        check.same("22: of nobody", new PeerStores().net(), 0);
    }

    private static void netsTwo() {
        PeerStores x = PeersTest.star(0, 1);
        x.file(0, 0);
        x.file(1, 0);
        x.pass();
        x.pass();
        x.turn(1, false);
        for (int i = 0; i < 3; i++) {
            x.pass();
        }
        check.same("22: one way", x.owes(0, 1), 6);
        check.same("22: the other way", x.owes(1, 0), 16);
        check.same("22: twice the lesser one", x.net(), 12);
        check.same("22: the lesser one is gone", x.owes(0, 1), 0);
        check.same("22: the other one is less", x.owes(1, 0), 10);
        check.same("22: nothing is left to net", x.net(), 0);
    }

    /** A ring of three is made of debts that come of three files with one holder each. */
    private static PeerStores ring(int[] next, int... days) {
        PeerStores x = PeersTest.star(0, 1, 2);
        for (int owner = 0; owner < 3; owner++) {
            int other = 3 - owner - next[owner];
            x.turn(other, false);
            x.file(owner, 0);
            x.turn(other, true);
        }
        for (int owner = 0; owner < 3; owner++) {
            for (int i = 0; i < 3; i++) {
                x.turn(i, i == owner || i == next[owner]);
            }
            for (int day = 0; day < days[owner]; day++) {
                x.pass();
            }
        }
        return x;
    }

    private static void netsThree() {
        PeerStores x = ring(UP, 1, 2, 1);
        check.same("22: the first owes the second", x.owes(0, 1), 3);
        check.same("22: the second owes the third", x.owes(1, 2), 6);
        check.same("22: the third owes the first", x.owes(2, 0), 3);
        check.same("22: three times the least", x.net(), 9);
        check.same("22: the first one's debt is gone", x.owes(0, 1), 0);
        check.same("22: the second one's is less", x.owes(1, 2), 3);
        check.same("22: the third one's is gone", x.owes(2, 0), 0);
        check.same("22: nothing is left", x.net(), 0);
        PeerStores y = ring(DOWN, 2, 1, 1);
        check.same("22: the first owes the third", y.owes(0, 2), 6);
        check.same("22: the other way round", y.net(), 9);
        check.same("22: the rest is owed", y.owes(0, 2), 3);
        check.same("22: nothing else", y.owes(2, 1) + y.owes(1, 0), 0);
    }

    /** Rings of two go ahead of those of three, so that less is left for the ring of three. */
    private static void netsInOrder() {
        PeerStores x = ring(UP, 2, 2, 2);
        x.turn(0, true);
        x.turn(1, true);
        x.turn(2, false);
        int number = x.file(1, 0);
        check.same("22: the second one's holder is the first one", x.piece(number, 0, 1), 0);
        x.pass();
        check.same("22: the first owes the second", x.owes(0, 1), 9);
        check.same("22: the second owes the first", x.owes(1, 0), 3);
        check.same("22: two ahead of three", x.net(), 6 + 18);
        check.same("22: the first one's debt is gone", x.owes(0, 1), 0);
        check.same("22: the second one's too", x.owes(1, 0) + x.owes(1, 2), 0);
        PeerStores y = five();
        y.fetch(1, 0);
        y.fetch(2, 0);
        y.fetch(0, 3);
        y.pass();
        int before = 0;
        int[] worth = new int[5];
        for (int p = 0; p < 5; p++) {
            worth[p] = y.worth(p);
            for (int q = 0; q < 5; q++) {
                before += y.owes(p, q);
            }
        }
        int less = y.net();
        int after = 0;
        for (int p = 0; p < 5; p++) {
            check.same("22: what one is worth stays", y.worth(p), worth[p]);
            for (int q = 0; q < 5; q++) {
                after += y.owes(p, q);
            }
        }
        check.same("22: by how much all are less", less, before - after);
        check.same("22: some", less > 0, true);
    }

    private static void worths() {
        PeerStores x = PeersTest.star(0, 1, 2);
        check.same("23: nothing at first", x.worth(0), 0);
        x.file(0, 0);
        x.pass();
        check.same("23: who pays two holders", x.worth(0), -6);
        check.same("23: a holder", x.worth(1), 3);
        x.turn(1, false);
        for (int i = 0; i < 3; i++) {
            x.pass();
        }
        check.same("23: both ways", x.worth(0), -3 - 12 + 10);
        check.same("23: less than nothing", x.worth(1), 3 - 10);
        check.same("23: all together are nothing", x.worth(0) + x.worth(1) + x.worth(2), 0);
        check.fails("23: no such peer", NO_SUCH, () -> x.worth(3));
        check.fails("23: below 0", NO_SUCH, () -> x.worth(-1));
    }
}
