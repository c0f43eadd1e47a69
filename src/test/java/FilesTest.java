/** Promises 8 to 16: file, piece, spoil, root, proof, isProved, mend, fetch, pass. */
public final class FilesTest {
    private static final Class<?> BAD = IllegalArgumentException.class;
    private static final Class<?> NO_SUCH = IndexOutOfBoundsException.class;
    private static final Class<?> NOT_NOW = IllegalStateException.class;
    private static final Check check = new Check("FilesTest");

    public static void main(String[] args) {
        fileNumbers();
        fileStores();
        fileHolders();
        fileLooksUp();
        pieces();
        pieceRefused();
        spoils();
        roots();
        proofs();
        proved();
        mends();
        mendRefused();
        fetches();
        fetchRefused();
        fetchByHolder();
        days();
        challenges();
        missesInARow();
        ownerAway();
        repairWaits();
        repairNeedsFour();
        keptAnew();
        check.finish();
    }

    /** Eight honest peers, all known to peer 0, of whom six hold the six pieces of its file 0. */
    private static PeerStores eight() {
        PeerStores x = PeersTest.star(0, 1, 2, 4, 128, 200, 7, 64);
        x.file(0, 0x01020304);
        return x;
    }

    private static void passDays(PeerStores x, int days) {
        for (int i = 0; i < days; i++) {
            x.pass();
        }
    }

    private static void fileNumbers() {
        PeerStores x = PeersTest.star(1, 2);
        for (int i = 0; i < 12; i++) {
            check.same("8: number", x.file(i % 2, i), i);
        }
        check.fails("8: 12 at most", NOT_NOW, () -> x.file(0, 0));
        check.fails("8: the owner ahead of the count", NO_SUCH, () -> x.file(2, 0));
        PeerStores y = PeersTest.star(1, 2);
        check.fails("8: no such owner", NO_SUCH, () -> y.file(2, 0));
        check.fails("8: owner below 0", NO_SUCH, () -> y.file(-1, 0));
        y.turn(0, false);
        check.fails("8: the owner is away", NOT_NOW, () -> y.file(0, 0));
        check.fails("8: nothing has changed", NO_SUCH, () -> y.root(0));
        check.same("8: the first number is not lost", y.file(1, 0), 0);
    }

    private static void fileStores() {
        PeerStores x = eight();
        int seen = 0;
        for (int i = 0; i < 6; i++) {
            int holder = x.piece(0, i, 1);
            check.same("8: held, and not by the owner", holder > 0, true);
            check.same("8: by one who holds no other", seen >> holder & 1, 0);
            check.same("8: and keeps it", x.piece(0, i, 2), 1);
            seen |= 1 << holder;
        }
        // Nobody is paid before a day has passed.
        check.same("8: nothing is owed yet", x.worth(0), 0);
        int[] due = {2, 5, 4, 7, 6, 3};
        PeerStores y = new PeerStores();
        int[] ids = {0, 1, 2, 4, 128, 200, 7, 64};
        int[] by = {-1, 0, 0, 1, 0, 4, 2, 0};
        for (int i = 0; i < ids.length; i++) {
            y.peer(ids[i], 0, by[i]);
        }
        y.file(0, 0x01020304);
        for (int i = 0; i < 6; i++) {
            check.same("8: holder of piece " + i, y.piece(0, i, 1), due[i]);
        }
    }

    /** The holder is the first of a two way lookup of the key that holds none. */
    private static void fileHolders() {
        PeerStores x = PeersTest.star(0, 1);
        x.file(0, 5);
        check.same("8: one other holds one piece", x.piece(0, 0, 1), 1);
        for (int i = 1; i < 6; i++) {
            check.same("8: not two", x.piece(0, i, 1), -1);
        }
        check.same("8: of another file it does", x.file(0, 5), 1);
        check.same("8: hold one too", x.piece(1, 0, 1), 1);
        PeerStores y = new PeerStores();
        y.peer(0, 0, -1);
        y.peer(1, 2, 0);
        y.peer(2, 1, 0);
        y.file(0, 5);
        check.same("8: one of a band takes it", y.piece(0, 0, 1), 1);
        check.same("8: but does not keep it", y.piece(0, 0, 2), 0);
        check.same("8: a silent one takes none", y.piece(0, 1, 1), -1);
        PeerStores z = new PeerStores();
        z.peer(0, 2, -1);
        z.peer(1, 0, 0);
        z.file(0, 5);
        check.same("8: an honest one keeps what is one's of a band", z.piece(0, 0, 2), 1);
    }

    /** A twin that has the same peers is asked by hand for what file() looks up by itself. */
    private static void fileLooksUp() {
        int[] ids = {0, 1, 2, 4, 8, 16, 32, 64, 128, 85, 170, 255};
        PeerStores x = PeersTest.star(ids);
        PeerStores twin = PeersTest.star(ids);
        int notHeld = 0;
        for (int file = 0; file < 12; file++) {
            int owner = file % ids.length;
            x.file(owner, file * 0x1F3A5B77);
            int taken = 0;
            for (int i = 0; i < 6; i++) {
                int result = twin.lookup(owner, Model.hash(x.piece(file, i, 0), i) & 255, 2);
                int holder = -1;
                for (int rest = result; rest > 0 && holder < 0; rest /= 32) {
                    holder = (taken >> rest % 32 - 1 & 1) == 0 ? rest % 32 - 1 : -1;
                }
                taken |= holder < 0 ? 0 : 1 << holder;
                notHeld += holder < 0 ? 1 : 0;
                check.same("8: the first of the result that is free", x.piece(file, i, 1), holder);
            }
            check.same("8: as many were asked", x.asked(), twin.asked());
        }
        check.same("8: some have none in the result", notHeld > 0, true);
    }

    private static void pieces() {
        PeerStores x = PeersTest.strangers(9);
        x.file(0, 0x12345678);
        int[] values = {0x78, 0x56, 0x34, 0x12, 8, 148};
        for (int i = 0; i < 6; i++) {
            check.same("9: value of piece " + i, x.piece(0, i, 0), values[i]);
            check.same("9: not held", x.piece(0, i, 1), -1);
            check.same("9: not kept", x.piece(0, i, 2), 0);
            check.same("9: no misses", x.piece(0, i, 3), 0);
        }
        // 2 * 128, 4 * 128 and 8 * 128 are 256, 512 and 1024, less multiples of 285.
        int[] wrapped = {29, 58, 116};
        for (int i = 1; i < 4; i++) {
            x.file(0, 128 << 8 * i);
            check.same("9: p0", x.piece(i, 4, 0), 128);
            check.same("9: p1", x.piece(i, 5, 0), wrapped[i - 1]);
        }
        x.file(0, -1);
        check.same("9: four bytes 255", x.piece(4, 3, 0), 255);
        check.same("9: their sum", x.piece(4, 4, 0), 0);
    }

    private static void pieceRefused() {
        PeerStores x = eight();
        check.fails("9: no such file", NO_SUCH, () -> x.piece(1, 0, 0));
        check.fails("9: file below 0", NO_SUCH, () -> x.piece(-1, 0, 9));
        check.fails("9: file far out", NO_SUCH, () -> x.piece(12, 0, 0));
        check.fails("9: no such piece", NO_SUCH, () -> x.piece(0, 6, 0));
        check.fails("9: piece ahead of what", NO_SUCH, () -> x.piece(0, -1, 4));
        check.fails("9: what 4", BAD, () -> x.piece(0, 0, 4));
        check.fails("9: what below 0", BAD, () -> x.piece(0, 5, -1));
    }

    private static void spoils() {
        PeerStores x = eight();
        check.same("10: it kept it", x.spoil(0, 3), true);
        check.same("10: keeps it no more", x.piece(0, 3, 2), 0);
        check.same("10: holds it still", x.piece(0, 3, 1) > 0, true);
        check.same("10: did not keep it", x.spoil(0, 3), false);
        check.same("10: others are kept", x.piece(0, 2, 2), 1);
        check.fails("10: no such file", NO_SUCH, () -> x.spoil(1, 0));
        check.fails("10: no such piece", NO_SUCH, () -> x.spoil(0, 6));
        check.fails("10: piece below 0", NO_SUCH, () -> x.spoil(0, -1));
        PeerStores y = PeersTest.strangers(9);
        y.file(0, 1);
        check.fails("10: not held", NOT_NOW, () -> y.spoil(0, 0));
        check.fails("10: piece ahead of not held", NO_SUCH, () -> y.spoil(0, 6));
        PeerStores z = new PeerStores();
        z.peer(0, 0, -1);
        z.peer(1, 2, 0);
        z.file(0, 1);
        check.same("10: one of a band does not keep it", z.spoil(0, 0), false);
    }

    private static void roots() {
        PeerStores x = PeersTest.strangers(9, 10);
        x.file(0, 0);
        check.same("11: of zeros", x.root(0), -1665148829);
        x.file(1, 0);
        check.same("11: the owner does not matter", x.root(1), -1665148829);
        x.file(0, 0x12345678);
        check.same("11: of others", x.root(2), -1256628090);
        int low = Model.hash(Model.hash(Model.hash(0x78, 0), Model.hash(0x56, 1)),
                Model.hash(Model.hash(0x34, 2), Model.hash(0x12, 3)));
        int high = Model.hash(Model.hash(Model.hash(8, 4), Model.hash(148, 5)), Model.hash(0, 0));
        check.same("11: by hand", x.root(2), Model.hash(low, high));
        check.fails("11: no such file", NO_SUCH, () -> x.root(3));
        check.fails("11: below 0", NO_SUCH, () -> x.root(-1));
        check.fails("11: far out", NO_SUCH, () -> x.root(Integer.MAX_VALUE));
    }

    private static void proofs() {
        PeerStores x = PeersTest.strangers(9);
        x.file(0, 0);
        check.same("12: to the right", x.proof(0, 0, 0), Model.hash(0, 1));
        check.same("12: to the left", x.proof(0, 1, 0), Model.hash(0, 0));
        check.same("12: in the second row", x.proof(0, 0, 1), Model.hash(Model.hash(0, 2), Model.hash(0, 3)));
        check.same("12: in the third row", x.proof(0, 0, 2), 361143502);
        check.same("12: of the last piece", x.proof(0, 5, 0), 119107316);
        check.same("12: two zeros", x.proof(0, 5, 1), 12345);
        check.fails("12: no such file", NO_SUCH, () -> x.proof(1, 0, 0));
        check.fails("12: no such piece", NO_SUCH, () -> x.proof(0, 6, 0));
        check.fails("12: piece ahead of row", NO_SUCH, () -> x.proof(0, -1, 3));
        check.fails("12: row 3", BAD, () -> x.proof(0, 0, 3));
        check.fails("12: row below 0", BAD, () -> x.proof(0, 0, -1));
    }

    private static void proved() {
        PeerStores x = PeersTest.strangers(9);
        x.file(0, 0x7B2D11F0);
        for (int i = 0; i < 6; i++) {
            int value = x.piece(0, i, 0);
            int[] n = {x.proof(0, i, 0), x.proof(0, i, 1), x.proof(0, i, 2)};
            check.same("13: piece " + i, x.isProved(0, i, value, n[0], n[1], n[2]), true);
            check.same("13: another value", x.isProved(0, i, value ^ 1, n[0], n[1], n[2]), false);
            check.same("13: another piece", x.isProved(0, i ^ 1, value, n[0], n[1], n[2]), false);
            check.same("13: first", x.isProved(0, i, value, n[0] + 1, n[1], n[2]), false);
            check.same("13: second", x.isProved(0, i, value, n[0], n[1] + 1, n[2]), false);
            check.same("13: third", x.isProved(0, i, value, n[0], n[1], n[2] + 1), false);
        }
        check.same("13: 0 and 255 are values", x.isProved(0, 0, 0, 1, 2, 3) | x.isProved(0, 0, 255, 1, 2, 3), false);
        check.fails("13: no such file", NO_SUCH, () -> x.isProved(1, 0, 0, 0, 0, 0));
        check.fails("13: no such piece", NO_SUCH, () -> x.isProved(0, 6, 0, 0, 0, 0));
        check.fails("13: piece ahead of value", NO_SUCH, () -> x.isProved(0, -1, 256, 0, 0, 0));
        check.fails("13: value 256", BAD, () -> x.isProved(0, 0, 256, 0, 0, 0));
        check.fails("13: value below 0", BAD, () -> x.isProved(0, 0, -1, 0, 0, 0));
    }

    private static void mends() {
        int[] all = {0, -1, 0x01020304, 0x80402010, 0xFF00FF00, 0x7B2D11F0, 1 << 31};
        PeerStores x = PeersTest.strangers(9);
        for (int file = 0; file < all.length; file++) {
            x.file(0, all[file]);
            for (int set = 0; set < 64; set++) {
                if (Integer.bitCount(set) >= 4) {
                    check.same("14: from " + set, x.mend(file, set), all[file]);
                }
            }
        }
    }

    private static void mendRefused() {
        PeerStores x = eight();
        check.fails("14: no such file", NO_SUCH, () -> x.mend(1, 63));
        check.fails("14: file ahead of pieces", NO_SUCH, () -> x.mend(-1, 64));
        check.fails("14: pieces below 0", BAD, () -> x.mend(0, -1));
        check.fails("14: 64", BAD, () -> x.mend(0, 64));
        check.fails("14: four, and a seventh piece", BAD, () -> x.mend(0, 64 + 15));
        check.fails("14: none", BAD, () -> x.mend(0, 0));
        check.fails("14: three", BAD, () -> x.mend(0, 7));
        check.fails("14: three others", BAD, () -> x.mend(0, 56));
    }

    private static void fetches() {
        PeerStores x = eight();
        check.same("15: four are got", x.fetch(1, 0), 4);
        int paid = 0;
        for (int i = 0; i < 4; i++) {
            int holder = x.piece(0, i, 1);
            check.same("15: the first four are owed", x.owes(1, holder), holder == 1 ? 0 : 1);
            paid += x.owes(1, holder);
        }
        check.same("15: nobody else", x.worth(1), -paid);
        check.same("15: the owner gets none", x.fetch(0, 0), 0);
        check.same("15: and owes nothing", x.worth(0), 0);
        PeerStores y = eight();
        int away = y.piece(0, 1, 1);
        y.turn(away, false);
        y.spoil(0, 2);
        int fetcher = 1;
        check.same("15: from four that are left", y.fetch(fetcher, 0), 4);
        check.same("15: who is away gives none", y.owes(fetcher, away), 0);
        check.same("15: nor who threw it away", y.owes(fetcher, y.piece(0, 2, 1)), 0);
        y.spoil(0, 0);
        int owed = y.worth(fetcher);
        check.same("15: three are not enough", y.fetch(fetcher, 0), 0);
        check.same("15: then nothing is owed", y.worth(fetcher), owed);
    }

    private static void fetchRefused() {
        PeerStores x = eight();
        check.fails("15: no such peer", NO_SUCH, () -> x.fetch(8, 0));
        check.fails("15: peer below 0", NO_SUCH, () -> x.fetch(-1, 0));
        check.fails("15: no such file", NO_SUCH, () -> x.fetch(1, 1));
        x.turn(1, false);
        check.fails("15: away", NOT_NOW, () -> x.fetch(1, 0));
        check.fails("15: file ahead of being away", NO_SUCH, () -> x.fetch(1, -1));
        x.turn(0, false);
        check.fails("15: the owner away", NOT_NOW, () -> x.fetch(0, 0));
    }

    private static void fetchByHolder() {
        PeerStores x = eight();
        int holder = x.piece(0, 2, 1);
        check.same("15: a holder gets four", x.fetch(holder, 0), 4);
        check.same("15: one of them its own", x.worth(holder), -3);
        check.same("15: it owes itself nothing", x.owes(holder, holder), 0);
        check.same("15: not the fifth", x.owes(holder, x.piece(0, 4, 1)), 0);
        int last = x.piece(0, 5, 1);
        x.fetch(last, 0);
        check.same("15: not the own one behind four", x.worth(last), -4);
    }

    private static void days() {
        PeerStores x = new PeerStores();
        for (int day = 1; day <= 500; day++) {
            check.same("16: the day", x.pass(), day);
        }
        check.fails("16: no day behind the day 500", NOT_NOW, x::pass);
        check.fails("16: and none again", NOT_NOW, x::pass);
    }

    private static void challenges() {
        PeerStores x = eight();
        int gone = x.piece(0, 4, 1);
        x.turn(gone, false);
        x.spoil(0, 2);
        x.pass();
        for (int i = 0; i < 6; i++) {
            int holder = x.piece(0, i, 1);
            boolean isMissed = i == 2 || i == 4;
            check.same("16: paid", x.owes(0, holder), isMissed ? 0 : 3);
            check.same("16: missed", x.piece(0, i, 3), isMissed ? 1 : 0);
            check.same("16: no stake is owed yet", x.owes(holder, 0), 0);
        }
        check.same("16: a holder keeps while it is away", x.piece(0, 4, 2), 1);
        x.file(0, 0x01020304);
        check.same("16: a day is paid for behind it", x.worth(0), -12);
        int both = x.piece(0, 0, 1);
        x.pass();
        int held = 0;
        for (int i = 0; i < 6; i++) {
            held += x.piece(1, i, 1) == both ? 1 : 0;
        }
        check.same("16: each file's piece is paid for", x.owes(0, both), 6 + 3 * held);
    }

    private static void missesInARow() {
        PeerStores x = eight();
        int holder = x.piece(0, 1, 1);
        x.turn(holder, false);
        passDays(x, 2);
        check.same("16: two misses", x.piece(0, 1, 3), 2);
        x.turn(holder, true);
        x.pass();
        check.same("16: it answers again", x.piece(0, 1, 3), 0);
        check.same("16: and is paid for that day", x.owes(0, holder), 3);
        x.turn(holder, false);
        passDays(x, 2);
        check.same("16: counted from there", x.piece(0, 1, 1), holder);
        check.same("16: no stake yet", x.owes(holder, 0), 0);
        x.pass();
        check.same("16: three in a row", x.piece(0, 1, 1), -1);
        check.same("16: the stake is owed", x.owes(holder, 0), 10);
        check.same("16: no misses of what is not held", x.piece(0, 1, 3), 0);
        check.same("16: nor is it kept", x.piece(0, 1, 2), 0);
        x.pass();
        check.same("16: the stake is owed once", x.owes(holder, 0), 10);
        check.same("16: five held ones are not mended", x.piece(0, 1, 1), -1);
    }

    private static void ownerAway() {
        PeerStores x = eight();
        x.spoil(0, 0);
        x.turn(0, false);
        passDays(x, 4);
        check.same("16: no challenge while the owner is away", x.piece(0, 0, 3), 0);
        check.same("16: nor pay", x.worth(0), 0);
        x.turn(0, true);
        x.spoil(0, 1);
        passDays(x, 2);
        x.turn(0, false);
        passDays(x, 2);
        check.same("16: misses wait with the owner", x.piece(0, 0, 3), 2);
        PeerStores y = PeersTest.star(0, 1, 2, 4, 8);
        y.file(0, 0x01020304);
        int held = 0;
        for (int i = 0; i < 6; i++) {
            held += y.piece(0, i, 1) >= 0 ? 1 : 0;
        }
        check.same("16: four others hold four", held, 4);
        y.turn(0, false);
        y.peer(16, 0, 1);
        y.peer(32, 0, 1);
        int asked = y.asked();
        y.pass();
        check.same("16: no repair while the owner is away", y.asked(), asked);
        y.turn(0, true);
        y.lookup(0, 16, 2);
        y.lookup(0, 32, 2);
        y.pass();
        held = 0;
        for (int i = 0; i < 6; i++) {
            held += y.piece(0, i, 1) >= 0 ? 1 : 0;
        }
        check.same("16: what was never held is stored then", held > 4, true);
    }

    private static void repairWaits() {
        PeerStores x = eight();
        x.spoil(0, 0);
        passDays(x, 3);
        check.same("16: one lost piece waits", x.piece(0, 0, 1), -1);
        x.spoil(0, 5);
        passDays(x, 2);
        check.same("16: the second is held yet", x.piece(0, 5, 1) >= 0, true);
        check.same("16: so that the first waits", x.piece(0, 0, 1), -1);
        x.pass();
        check.same("16: with four held the first is stored", x.piece(0, 0, 1) >= 0, true);
        check.same("16: and the second", x.piece(0, 5, 1) >= 0, true);
        check.same("16: and kept", x.piece(0, 0, 2) + x.piece(0, 5, 2), 2);
        check.same("16: without misses", x.piece(0, 5, 3), 0);
        int before = x.owes(0, x.piece(0, 5, 1));
        int twice = x.piece(0, 5, 1);
        x.pass();
        check.same("16: and paid for from the next day on", x.owes(0, twice), before + 3);
    }

    private static void repairNeedsFour() {
        PeerStores x = eight();
        x.spoil(0, 0);
        x.spoil(0, 1);
        passDays(x, 2);
        int away = x.piece(0, 3, 1);
        x.turn(away, false);
        x.pass();
        check.same("16: four held, three online: no repair", x.piece(0, 0, 1), -1);
        x.turn(away, true);
        x.pass();
        check.same("16: four online: repair", x.piece(0, 0, 1) >= 0, true);
        PeerStores y = eight();
        y.spoil(0, 0);
        y.spoil(0, 1);
        passDays(y, 2);
        y.spoil(0, 2);
        y.pass();
        check.same("16: four held, three kept: no repair", y.piece(0, 0, 1), -1);
        passDays(y, 10);
        check.same("16: three held: never", y.piece(0, 0, 1), -1);
        check.same("16: the rest stays held", y.piece(0, 5, 1) >= 0, true);
    }

    private static void keptAnew() {
        PeerStores x = eight();
        int spare = 1 + 2 + 3 + 4 + 5 + 6 + 7;
        for (int i = 0; i < 6; i++) {
            spare -= x.piece(0, i, 1);
        }
        x.turn(spare, false);
        x.spoil(0, 0);
        x.spoil(0, 1);
        int first = x.piece(0, 0, 1);
        int second = x.piece(0, 1, 1);
        passDays(x, 3);
        int pair = 1 << x.piece(0, 0, 1) | 1 << x.piece(0, 1, 1);
        check.same("16: the two that lost them hold them anew", pair, 1 << first | 1 << second);
        check.same("16: and keep them", x.piece(0, 0, 2) + x.piece(0, 1, 2), 2);
    }
}
