/** Promises 1 to 7: a new object, peer, turn, bucket, lookup, asked, closest. */
public final class PeersTest {
    private static final Class<?> BAD = IllegalArgumentException.class;
    private static final Class<?> NO_SUCH = IndexOutOfBoundsException.class;
    private static final Class<?> NOT_NOW = IllegalStateException.class;
    private static final Check check = new Check("PeersTest");

    public static void main(String[] args) {
        newObject();
        peerNumbers();
        peerRefused();
        peerJoins();
        turns();
        buckets();
        bucketsKeepTheOld();
        lookups();
        lookupRefused();
        lookupRounds();
        lookupChoosesAhead();
        lookupTellsThree();
        lookupWays();
        lookupBand();
        lookupSilent();
        askedCounts();
        closestOfAll();
        check.finish();
    }

    /** A row of peers as a result is told: the first one lowest, each with 1 more, to the base 32. */
    static int row(int... peers) {
        int sum = 0;
        for (int i = peers.length - 1; i >= 0; i--) {
            sum = sum * 32 + peers[i] + 1;
        }
        return sum;
    }

    /** Honest peers with these ids, each joined by the one of number 0. */
    static PeerStores star(int... ids) {
        PeerStores x = new PeerStores();
        for (int i = 0; i < ids.length; i++) {
            x.peer(ids[i], 0, i == 0 ? -1 : 0);
        }
        return x;
    }

    /** Honest peers with these ids that have not heard of one another. */
    static PeerStores strangers(int... ids) {
        PeerStores x = new PeerStores();
        for (int id : ids) {
            x.peer(id, 0, -1);
        }
        return x;
    }

    private static void newObject() {
        PeerStores x = new PeerStores();
        check.same("1: asked at first", x.asked(), 0);
        check.same("1: rounds at first", x.rounds(), 0);
        check.same("1: net at first", x.net(), 0);
        check.fails("1: no peer at first", NO_SUCH, () -> x.worth(0));
        check.fails("1: no file at first", NO_SUCH, () -> x.root(0));
        check.same("1: the first day behind the day 0", x.pass(), 1);
        PeerStores other = new PeerStores();
        x.peer(1, 0, -1);
        check.fails("1: objects are apart", NO_SUCH, () -> other.turn(0, true));
    }

    private static void peerNumbers() {
        PeerStores x = new PeerStores();
        for (int i = 0; i < 16; i++) {
            check.same("2: number", x.peer(i == 0 ? 255 : i - 1, i % 3, -1), i);
        }
        check.same("2: made online", x.turn(15, true), true);
        check.fails("2: 16 at most", NOT_NOW, () -> x.peer(100, 0, -1));
        check.fails("2: 16 at most, by a peer", NOT_NOW, () -> x.peer(100, 0, 3));
        check.fails("2: the id ahead of the count", BAD, () -> x.peer(256, 0, -1));
        check.fails("2: the joining one ahead of the count", NO_SUCH, () -> x.peer(100, 0, 16));
    }

    private static void peerRefused() {
        PeerStores x = strangers(7, 8);
        check.fails("2: id below 0", BAD, () -> x.peer(-1, 0, -1));
        check.fails("2: id 256", BAD, () -> x.peer(256, 0, -1));
        check.fails("2: id far out", BAD, () -> x.peer(Integer.MIN_VALUE, 0, -1));
        check.fails("2: sort below 0", BAD, () -> x.peer(1, -1, -1));
        check.fails("2: sort 3", BAD, () -> x.peer(1, 3, -1));
        check.fails("2: sort ahead of by", BAD, () -> x.peer(1, 3, 9));
        check.fails("2: by below -1", NO_SUCH, () -> x.peer(1, 0, -2));
        check.fails("2: by is not made yet", NO_SUCH, () -> x.peer(1, 0, 2));
        check.fails("2: by far out", NO_SUCH, () -> x.peer(1, 0, Integer.MAX_VALUE));
        check.fails("2: by ahead of an id that is taken", NO_SUCH, () -> x.peer(7, 0, 2));
        check.fails("2: id is taken", NOT_NOW, () -> x.peer(8, 1, -1));
        x.turn(0, false);
        check.fails("2: id of one who is away", NOT_NOW, () -> x.peer(7, 0, 1));
        check.fails("2: by is away", NOT_NOW, () -> x.peer(1, 0, 0));
        check.same("2: nothing has changed", x.peer(1, 0, 1), 2);
        check.same("2: joined by 1 alone", x.bucket(0, 2, 0), -1);
    }

    private static void peerJoins() {
        PeerStores x = strangers(0, 1);
        check.same("2: without by nobody is heard of", x.bucket(0, 0, 0), -1);
        x = star(0, 4);
        check.same("2: by hears of the new one", x.bucket(0, 2, 0), 1);
        check.same("2: the new one hears of by", x.bucket(1, 2, 0), 0);
        check.same("2: its own id is looked up", x.asked(), 1);
        x.peer(5, 0, 0);
        check.same("2: the lookup finds those behind by", x.asked(), 2);
        check.same("2: who is found is kept", x.bucket(2, 0, 0), 1);
        check.same("2: who is asked keeps the asker", x.bucket(1, 0, 0), 2);
        x = new PeerStores();
        x.peer(0, 1, -1);
        x.peer(1, 0, 0);
        check.same("2: a silent one hears of who joins", x.bucket(0, 0, 0), 1);
        check.same("2: who joins keeps the silent one", x.bucket(1, 0, 0), 0);
        check.same("2: the silent one is asked", x.asked(), 1);
        x.peer(2, 0, -1);
        check.same("2: without by nothing is looked up", x.asked(), 1);
    }

    private static void turns() {
        PeerStores x = strangers(3);
        check.same("3: was online", x.turn(0, true), true);
        check.same("3: goes", x.turn(0, false), true);
        check.same("3: is gone", x.turn(0, false), false);
        check.fails("3: is away", NOT_NOW, () -> x.spread(0));
        check.same("3: comes again", x.turn(0, true), false);
        check.same("3: is there", x.spread(0), 0);
        check.fails("3: below 0", NO_SUCH, () -> x.turn(-1, true));
        check.fails("3: not made yet", NO_SUCH, () -> x.turn(1, false));
        check.fails("3: far out", NO_SUCH, () -> x.turn(Integer.MAX_VALUE, false));
    }

    private static void buckets() {
        PeerStores x = star(0, 1, 2, 4, 8, 16, 32, 64, 128);
        for (int b = 0; b < 8; b++) {
            check.same("4: bucket " + b, x.bucket(0, b, 0), b + 1);
            check.same("4: bucket " + b + ", second", x.bucket(0, b, 1), -1);
        }
        x = star(170, 85);
        check.same("4: the highest bit of the distance", x.bucket(0, 7, 0), 1);
        PeerStores y = star(5, 4);
        check.same("4: not so many", y.bucket(0, 0, 2), -1);
        check.same("4: far from so many", y.bucket(0, 0, Integer.MAX_VALUE), -1);
        check.fails("4: place below 0", NO_SUCH, () -> y.bucket(0, 0, -1));
        check.fails("4: place ahead of bucket", NO_SUCH, () -> y.bucket(0, 9, Integer.MIN_VALUE));
        check.fails("4: no such peer", NO_SUCH, () -> y.bucket(2, 0, 0));
        check.fails("4: peer ahead of bucket", NO_SUCH, () -> y.bucket(-1, 8, 0));
        check.fails("4: bucket 8", BAD, () -> y.bucket(0, 8, 0));
        check.fails("4: bucket below 0", BAD, () -> y.bucket(0, -1, 0));
    }

    private static void bucketsKeepTheOld() {
        PeerStores y = star(0, 4, 5);
        check.same("4: the oldest first", y.bucket(0, 2, 0), 1);
        check.same("4: the newest last", y.bucket(0, 2, 1), 2);
        y.lookup(1, 0, 1);
        check.same("4: who is heard of again goes to the end", y.bucket(0, 2, 1), 1);
        check.same("4: and the other one is the oldest", y.bucket(0, 2, 0), 2);
        y.lookup(1, 0, 1);
        check.same("4: who is at the end stays there", y.bucket(0, 2, 1), 1);
        // A silent one hears of who joins by it once, and does not hear the lookup that follows.
        PeerStores x = new PeerStores();
        x.peer(0, 1, -1);
        x.peer(4, 0, 0);
        x.peer(5, 0, 0);
        x.turn(2, false);
        x.peer(6, 0, 0);
        check.same("4: who is new is not kept while the oldest is online", x.bucket(0, 2, 1), 1);
        check.same("4: the oldest went to the end", x.bucket(0, 2, 0), 2);
        x.peer(7, 0, 0);
        check.same("4: the oldest that is away is taken out", x.bucket(0, 2, 0), 1);
        check.same("4: and the new one comes at the end", x.bucket(0, 2, 1), 4);
        x.turn(1, false);
        x.turn(1, true);
        x.peer(3, 0, -1);
        x.turn(5, false);
        check.same("4: going alone takes nobody out", x.bucket(0, 2, 0), 1);
    }

    private static void lookups() {
        PeerStores x = star(0, 1, 2, 4);
        check.same("5: the closest one lowest", x.lookup(0, 3, 1), row(2, 1, 3));
        check.same("5: two ways", x.lookup(0, 3, 2), row(2, 1, 3));
        check.same("5: key 255", x.lookup(0, 255, 1), row(3, 2, 1));
        check.same("5: the asker is not in it", x.lookup(2, 2, 1), row(0, 1, 3));
        x.turn(1, false);
        check.same("5: nobody who is away", x.lookup(0, 3, 1), row(2, 3));
        check.same("5: empty", strangers(1, 2).lookup(0, 2, 1), 0);
        check.same("5: one alone", star(1, 2).lookup(1, 0, 2), row(0));
    }

    private static void lookupRefused() {
        PeerStores x = star(1, 2);
        check.fails("5: no such peer", NO_SUCH, () -> x.lookup(2, 0, 1));
        check.fails("5: peer ahead of key", NO_SUCH, () -> x.lookup(-1, 256, 3));
        check.fails("5: key below 0", BAD, () -> x.lookup(0, -1, 1));
        check.fails("5: key 256", BAD, () -> x.lookup(0, 256, 1));
        check.fails("5: no way", BAD, () -> x.lookup(0, 0, 0));
        check.fails("5: three ways", BAD, () -> x.lookup(0, 0, 3));
        x.turn(0, false);
        check.fails("5: away", NOT_NOW, () -> x.lookup(0, 0, 1));
        check.fails("5: key ahead of being away", BAD, () -> x.lookup(0, 256, 1));
        check.fails("5: ways ahead of being away", BAD, () -> x.lookup(0, 0, 3));
        check.same("5: nothing has changed", x.asked(), 1);
    }

    /** Peer 0 keeps others, each in a bucket of its own, who are honest at first and silent then. */
    private static void lookupRounds() {
        PeerStores x = star(0, 128, 64, 32);
        check.same("5: the third of the first three is asked a round later", x.lookup(0, 0, 1), row(3, 2, 1));
        check.same("6: all three", x.asked(), 3);
        PeerStores y = new PeerStores();
        int[] ids = {0, 1, 2, 4, 8, 16};
        for (int i = 0; i < ids.length; i++) {
            y.peer(ids[i], 1, i == 0 ? -1 : 0);
        }
        check.same("5: silent ones stay the first three of the row", y.lookup(0, 0, 1), 0);
        check.same("6: no more than the first three of a way are asked", y.asked(), 3);
        check.same("5: nor with two ways", y.lookup(0, 0, 2), 0);
        check.same("6: but each way has its own three", y.asked(), 5);
        for (int b = 0; b < 5; b++) {
            check.same("5: nobody who is silent hears of the asker", y.bucket(b + 1, b, 1), -1);
        }
    }

    /** Peer 3 keeps 0 and 4; 0 tells it of two that are closer to the key than both, and silent. */
    private static void lookupChoosesAhead() {
        PeerStores x = new PeerStores();
        x.peer(4, 0, -1);
        x.peer(1, 1, 0);
        x.peer(2, 1, 0);
        x.peer(128, 0, 0);
        x.peer(8, 0, 3);
        check.same("5: the second is asked though closer ones are told of", x.lookup(3, 0, 1), row(0, 4));
        check.same("6: two, and two", x.asked(), 4);
    }

    /** Peer 0 keeps four that are silent, and peer 5, who joins by it; peer 5 keeps it alone. */
    private static void lookupTellsThree() {
        PeerStores x = new PeerStores();
        x.peer(128, 0, -1);
        int[] ids = {129, 130, 132, 136};
        for (int id : ids) {
            x.peer(id, 1, 0);
        }
        x.peer(0, 0, 0);
        check.same("6: of the three told of one is the asker", x.asked(), 3);
        check.same("5: close to the asker", x.lookup(5, 0, 1), row(0));
        check.same("6: again the asker is one of the three", x.asked(), 3);
        check.same("5: far from the asker", x.lookup(5, 132, 1), row(0));
        check.same("6: three others are told of, two of them in the first three", x.asked(), 3);
        // Peer 0 keeps the asker, 1, 4, 5 and 6, told in this order by their distances from the key 0.
        PeerStores z = new PeerStores();
        z.peer(7, 0, -1);
        for (int id : new int[] {1, 4, 5, 6}) {
            z.peer(id, 1, 0);
        }
        z.peer(0, 0, 0);
        check.same("6: no fourth is told of", z.asked(), 3);
        check.same("5: nor when it is asked for", z.lookup(5, 0, 1), row(0));
        check.same("6: no fourth either", z.asked(), 3);
        PeerStores y = star(0, 128, 64, 32, 16, 8);
        check.same("5: what is told of comes into the row", y.lookup(1, 8, 1), row(5, 0, 4));
    }

    /** The first way starts with the closest and the third, the second one with the second. */
    private static void lookupWays() {
        PeerStores x = new PeerStores();
        x.peer(0, 0, -1);
        int[] ids = {1, 2, 4, 8, 16, 32, 64};
        for (int id : ids) {
            x.peer(id, 1, 0);
        }
        x.lookup(0, 0, 1);
        check.same("6: one way asks three that are silent", x.asked(), 3);
        x.lookup(0, 0, 2);
        check.same("6: two ways ask six that are silent", x.asked(), 6);
        PeerStores y = star(0, 1, 2, 4, 8, 16, 32, 64);
        check.same("5: the ways have one result", y.lookup(0, 127, 2), row(7, 6, 5));
        PeerStores z = star(0, 64, 32);
        check.same("5: both are asked", z.lookup(0, 64, 2), row(1, 2));
        check.same("6: nobody is asked twice", z.asked(), 2);
        PeerStores v = star(0, 4, 5);
        v.lookup(0, 4, 2);
        check.same("5: the closest goes the first way, and is asked first", v.bucket(0, 2, 0), 1);
        v.lookup(0, 5, 2);
        check.same("5: so is the other one, if it is closest", v.bucket(0, 2, 0), 2);
    }

    private static void lookupBand() {
        PeerStores x = new PeerStores();
        x.peer(0, 0, -1);
        x.peer(1, 0, 0);
        x.peer(128, 2, 0);
        check.same("5: one of a band finds others", x.bucket(2, 7, 0), 0);
        check.same("5: and others too by them", x.bucket(2, 7, 1), 1);
        x.peer(192, 2, 2);
        check.same("5: one of a band tells of its band alone", x.bucket(3, 7, 0), -1);
        check.same("6: so that nobody else is asked", x.asked(), 1);
        x.peer(129, 0, 3);
        check.same("5: those of the band are told of", x.asked(), 2);
        check.same("5: and answer", x.lookup(4, 255, 1), row(3, 2));
        check.same("5: one of a band hears of who asks", x.bucket(3, 6, 1), 4);
    }

    /** The band's one keeps three closer to the key that are not of the band, and tells of the far one. */
    private static void lookupSilent() {
        PeerStores x = new PeerStores();
        x.peer(0, 2, -1);
        x.peer(1, 1, 0);
        x.peer(2, 1, 0);
        x.peer(4, 1, 0);
        x.peer(128, 2, 0);
        x.peer(64, 0, 0);
        check.same("5: of the band those, and then three", x.lookup(5, 0, 1), row(0, 4));
        check.same("6: two of the band", x.asked(), 2);
        PeerStores y = new PeerStores();
        y.peer(0, 0, -1);
        y.peer(1, 1, 0);
        y.peer(2, 0, 0);
        y.turn(2, false);
        check.same("5: neither a silent one nor one away answers", y.lookup(0, 0, 1), 0);
        check.same("6: but both are asked", y.asked(), 2);
    }

    private static void askedCounts() {
        PeerStores x = star(0, 1, 2, 4, 8);
        x.lookup(0, 0, 1);
        check.same("6: after a lookup", x.asked(), 3);
        x.closest(0, 0);
        check.same("6: closest() is no lookup", x.asked(), 3);
        x.peer(255, 0, -1);
        x.lookup(5, 3, 2);
        check.same("6: a lookup of none", x.asked(), 0);
        x.name(0, 7);
        check.same("6: within name()", x.asked() > 0, true);
        x.lookup(5, 3, 2);
        x.tell(0, 7, 1, 1);
        check.same("6: within tell()", x.asked() > 0, true);
        x.lookup(5, 3, 2);
        x.file(0, 1);
        check.same("6: within file()", x.asked() > 0, true);
        x.lookup(5, 3, 2);
        x.fetch(1, 0);
        x.spread(0);
        check.same("6: neither fetch() nor spread() looks up", x.asked(), 0);
    }

    private static void closestOfAll() {
        PeerStores x = strangers(0, 1, 2, 4, 8);
        check.same("7: of all, though unheard of", x.closest(0, 0), row(1, 2, 3));
        check.same("7: but for the asker", x.closest(1, 1), row(0, 2, 3));
        check.same("7: nothing is heard", x.bucket(0, 0, 0), -1);
        x.turn(2, false);
        check.same("7: nobody who is away", x.closest(0, 0), row(1, 3, 4));
        x.turn(0, false);
        check.same("7: for one who is away", x.closest(0, 0), row(1, 3, 4));
        x.peer(3, 1, -1);
        check.same("7: nobody silent", x.closest(0, 0), row(1, 3, 4));
        x.peer(5, 2, -1);
        check.same("7: one of a band", x.closest(0, 0), row(1, 3, 6));
        check.same("7: nobody else", strangers(9).closest(0, 0), 0);
        check.same("7: one else", strangers(9, 10).closest(0, 255), row(1));
        check.fails("7: no such peer", NO_SUCH, () -> x.closest(7, 0));
        check.fails("7: peer ahead of key", NO_SUCH, () -> x.closest(-1, -1));
        check.fails("7: key below 0", BAD, () -> x.closest(0, -1));
        check.fails("7: key 256", BAD, () -> x.closest(0, 256));
    }
}
