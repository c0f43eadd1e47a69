/** The boundary cases of promises 1 to 7: each test stands below the sentence of the document that it holds. */
public final class EdgePeersTest {
    private static final Class<?> BAD = IllegalArgumentException.class;
    private static final Class<?> NO_SUCH = IndexOutOfBoundsException.class;
    private static final Class<?> NOT_NOW = IllegalStateException.class;
    /** Beside 0, the least and the greatest distance of each bucket: 1; 2 and 3; 4 and 7; and so on. */
    private static final int[] FIFTEEN = {0, 1, 2, 3, 4, 7, 8, 15, 16, 31, 32, 63, 64, 127, 128, 255};
    private static final Check check = new Check("EdgePeersTest");

    public static void main(String[] args) {
        noPeersAtFirst();
        sixteenPeers();
        idsFrom0To255();
        idsUnlike();
        threeSorts();
        joinedByMinusOne();
        joinedByTheLast();
        joinedByOneAway();
        joiningHearsBothWays();
        joiningAtAFullBucket();
        joiningLooksUpTheOwnId();
        turnedTwice();
        distanceNothing();
        distancesOfABucket(0);
        distancesOfABucket(170);
        placesOfABucket();
        bucketNumbers();
        heardAlone();
        heardOldest();
        heardNewest();
        heardWithRoom();
        heardAtAFullBucket();
        heardWithTheOldestAway();
        heardWithOthersAway();
        lookupKeysAndWays();
        lookupOfNobody();
        lookupOfOne();
        lookupTurns();
        lookupFirstThree();
        lookupClosestTwo();
        lookupBothAhead();
        lookupFirstWayAhead();
        lookupNobodyTwice();
        lookupNoAnswer();
        lookupHearsThenTells();
        lookupToldThree();
        lookupToldByTheBand();
        lookupToldOnce();
        lookupBySilentOrBand();
        resultOfThree();
        resultOfBothWays();
        resultDigits();
        askedOfTheLatest();
        askedWithinPass();
        closestOfNone();
        closestOfThree();
        closestKeys();
        closestHearsNothing();
        check.finish();
    }

    /** A silent one of the id 0, which hears once of each who joins by it; these have the ids 4 to 7. */
    private static PeerStores observer(int joined) {
        PeerStores x = new PeerStores();
        x.peer(0, 1, -1);
        for (int i = 0; i < joined; i++) {
            x.peer(4 + i, 0, 0);
        }
        return x;
    }

    /** One of the id 0, whom all others join: it keeps all that there is room for. */
    private static PeerStores fifteen() {
        return PeersTest.star(FIFTEEN);
    }

    private static void bucketIs(String what, PeerStores x, int peer, int bucket, int oldest, int newest) {
        check.same(what + ", the oldest", x.bucket(peer, bucket, 0), oldest);
        check.same(what + ", the newest", x.bucket(peer, bucket, 1), newest);
    }

    // ---- a new object, peer, turn

    /** "Begins on the day 0 without peers." */
    private static void noPeersAtFirst() {
        PeerStores x = new PeerStores();
        check.fails("1: no peer 0", NO_SUCH, () -> x.turn(0, true));
        check.fails("1: nobody to join by", NO_SUCH, () -> x.peer(0, 0, 0));
        check.same("1: nothing asked", x.asked(), 0);
        check.same("1: no rounds", x.rounds(), 0);
        check.same("1: nothing to net", x.net(), 0);
        check.same("1: the day 0 is over", x.pass(), 1);
        check.same("1: the first number", x.peer(0, 0, -1), 0);
    }

    /** "Peers are numbered from 0, at most 16"; "if there are 16" */
    private static void sixteenPeers() {
        PeerStores x = new PeerStores();
        for (int i = 0; i < 15; i++) {
            check.same("2: number", x.peer(17 * i, i % 3, -1), i);
        }
        check.fails("2: 15 is none yet", NO_SUCH, () -> x.turn(15, true));
        check.same("2: the sixteenth", x.peer(255, 0, -1), 15);
        check.same("2: 15 is one now", x.turn(15, true), true);
        check.fails("2: no seventeenth", NOT_NOW, () -> x.peer(1, 0, -1));
        check.fails("2: not by the last either", NOT_NOW, () -> x.peer(1, 0, 15));
        x.turn(15, false);
        check.fails("2: who is away counts", NOT_NOW, () -> x.peer(1, 0, 0));
        check.fails("2: 16 is none", NO_SUCH, () -> x.turn(16, true));
    }

    /** "a peer has an id, 0 to 255"; "if id or sort is out of range" */
    private static void idsFrom0To255() {
        PeerStores x = new PeerStores();
        check.fails("2: id -1", BAD, () -> x.peer(-1, 0, -1));
        check.fails("2: id 256", BAD, () -> x.peer(256, 0, -1));
        check.fails("2: the least int", BAD, () -> x.peer(Integer.MIN_VALUE, 0, -1));
        check.fails("2: the greatest int", BAD, () -> x.peer(Integer.MAX_VALUE, 0, -1));
        check.same("2: id 0", x.peer(0, 0, -1), 0);
        check.same("2: id 255", x.peer(255, 0, 0), 1);
        check.same("2: they are 255 apart", x.bucket(0, 7, 0), 1);
    }

    /** "unlike those of others"; "the id is that of another one" */
    private static void idsUnlike() {
        PeerStores x = PeersTest.strangers(0, 9, 255);
        check.fails("2: id of the first", NOT_NOW, () -> x.peer(0, 0, -1));
        check.fails("2: id of the last", NOT_NOW, () -> x.peer(255, 0, -1));
        check.fails("2: of another sort", NOT_NOW, () -> x.peer(9, 2, -1));
        check.fails("2: by the very one", NOT_NOW, () -> x.peer(9, 0, 1));
        x.turn(1, false);
        check.fails("2: id of one who is away", NOT_NOW, () -> x.peer(9, 0, -1));
        check.same("2: one id further", x.peer(8, 0, -1), 3);
    }

    /** "honest (0), silent (1: it answers nothing), or one of a band (2: it tells of its band alone)" */
    private static void threeSorts() {
        PeerStores x = PeersTest.strangers(128);
        check.fails("2: sort -1", BAD, () -> x.peer(1, -1, 0));
        check.fails("2: sort 3", BAD, () -> x.peer(1, 3, 0));
        check.fails("2: the least int", BAD, () -> x.peer(1, Integer.MIN_VALUE, 0));
        check.fails("2: the greatest int", BAD, () -> x.peer(1, 0x7FFFFFFF, 0));
        int[] results = {PeersTest.row(0), 0, PeersTest.row(0)};
        int[] toldOf = {2, 1, 1};
        for (int sort = 0; sort < 3; sort++) {
            PeerStores y = new PeerStores();
            y.peer(0, sort, -1);
            y.peer(1, 1, 0);
            y.peer(2, 0, 0);
            check.same("2: the sort " + sort + " answers", y.lookup(2, 0, 1), results[sort]);
            check.same("2: the sort " + sort + " tells of the silent one", y.asked(), toldOf[sort]);
        }
    }

    /** "the peer by whom it joins; -1 for none"; "if by is neither -1 nor a peer" */
    private static void joinedByMinusOne() {
        PeerStores x = PeersTest.star(0, 1);
        check.same("2: -1", x.peer(2, 0, -1), 2);
        for (int b = 0; b < 8; b++) {
            check.same("2: keeps nobody", x.bucket(2, b, 0), -1);
        }
        check.same("2: nobody keeps it", x.bucket(0, 1, 0), -1);
        check.same("2: and no lookup is gone", x.asked(), 1);
        check.fails("2: -2", NO_SUCH, () -> x.peer(3, 0, -2));
        check.fails("2: the least int", NO_SUCH, () -> x.peer(3, 0, Integer.MIN_VALUE));
    }

    /** The same sentence, at its other end. */
    private static void joinedByTheLast() {
        PeerStores x = PeersTest.strangers(0, 1);
        check.fails("2: by itself", NO_SUCH, () -> x.peer(4, 0, 2));
        check.same("2: by the last", x.peer(4, 0, 1), 2);
        check.same("2: which keeps it", x.bucket(1, 2, 0), 2);
        check.same("2: the first one does not", x.bucket(0, 2, 0), -1);
        check.fails("2: by 16", NO_SUCH, () -> x.peer(5, 0, 16));
        PeerStores full = fifteen();
        check.fails("2: by 16 of 16", NO_SUCH, () -> full.peer(5, 0, 16));
        PeerStores y = PeersTest.strangers(10, 11, 12, 13, 14, 15, 16, 17, 18, 19, 20, 21, 22, 23, 24);
        check.same("2: the sixteenth joins", y.peer(25, 0, 14), 15);
        check.same("2: and is kept", y.bucket(14, 0, 0), 15);
    }

    /** "joins by another one, online"; "or by is not online" */
    private static void joinedByOneAway() {
        PeerStores x = PeersTest.strangers(0);
        x.turn(0, false);
        check.fails("2: by one away", NOT_NOW, () -> x.peer(1, 0, 0));
        x.turn(0, true);
        check.same("2: the number is not lost", x.peer(1, 0, 0), 1);
    }

    /** "both hear of one another" */
    private static void joiningHearsBothWays() {
        for (int sort = 0; sort < 3; sort++) {
            PeerStores x = new PeerStores();
            x.peer(0, sort, -1);
            x.peer(128, 2 - sort, 0);
            bucketIs("2: by", x, 0, 7, 1, -1);
            bucketIs("2: the new one", x, 1, 7, 0, -1);
        }
    }

    /** The same with "the oldest goes to the end, and the new one is not kept": joining hears, so does asking. */
    private static void joiningAtAFullBucket() {
        PeerStores x = PeersTest.star(0, 4, 5);
        x.peer(6, 0, 0);
        bucketIs("2: twice heard of, the oldest is the oldest again", x, 0, 2, 1, 2);
        check.same("2: the new one keeps by", x.bucket(3, 2, 0), 0);
        PeerStores y = observer(3);
        bucketIs("2: a silent one hears once", y, 0, 2, 2, 1);
        PeerStores z = PeersTest.star(0, 4, 5);
        z.turn(1, false);
        z.peer(6, 0, 0);
        bucketIs("2: in the place of one away", z, 0, 2, 2, 3);
    }

    /** "and the new one looks up its own id, one way" */
    private static void joiningLooksUpTheOwnId() {
        // Peer 0 keeps four silent ones, and tells of the three that are closest to the new id.
        PeerStores x = new PeerStores();
        x.peer(0, 0, -1);
        x.peer(1, 0, 0);
        x.peer(2, 0, 0);
        x.peer(64, 0, 0);
        x.peer(128, 0, 0);
        x.peer(3, 0, 0);
        check.same("2: finds the closest to its id", x.bucket(5, 0, 0), 2);
        check.same("2: and the next ones", x.bucket(5, 1, 0) >= 0 && x.bucket(5, 1, 1) >= 0, true);
        check.same("2: but none who is far", x.bucket(5, 7, 0) + x.bucket(5, 6, 0), -2);
        check.same("2: three are asked", x.asked(), 3);
    }

    /** "Returns whether it was online." */
    private static void turnedTwice() {
        PeerStores x = PeersTest.strangers(1, 2);
        check.same("3: comes while it is there", x.turn(0, true), true);
        check.same("3: goes", x.turn(0, false), true);
        check.same("3: goes while it is away", x.turn(0, false), false);
        check.same("3: comes", x.turn(0, true), false);
        check.same("3: is there", x.turn(0, true), true);
        check.same("3: the other one was there all along", x.turn(1, true), true);
        check.fails("3: -1", NO_SUCH, () -> x.turn(-1, false));
        check.fails("3: one behind the last", NO_SUCH, () -> x.turn(2, false));
    }

    // ---- distances, buckets

    /** "is the one xor the other one. Closer is by less distance." */
    private static void distanceNothing() {
        PeerStores x = PeersTest.strangers(0, 255, 128, 127);
        check.same("7: the very id, then 127, then 128", x.closest(0, 255), PeersTest.row(1, 2, 3));
        check.same("7: 127, then 128, then 255", x.closest(0, 0), PeersTest.row(3, 2, 1));
        check.same("7: nothing, 255, 128", x.closest(3, 128), PeersTest.row(2, 1, 0));
    }

    /** "the bucket b has peers whose distance from it has b as its highest bit"; "each of at most 2 others" */
    private static void distancesOfABucket(int id) {
        int[] ids = FIFTEEN.clone();
        for (int i = 0; i < ids.length; i++) {
            ids[i] ^= id;
        }
        PeerStores x = PeersTest.star(ids);
        bucketIs("4: the one distance 1", x, 0, 0, 1, -1);
        for (int b = 1; b < 8; b++) {
            bucketIs("4: the least and the greatest distance of bucket " + b, x, 0, b, 2 * b, 2 * b + 1);
            check.same("4: no third", x.bucket(0, b, 2), -1);
        }
    }

    /** "0 for the oldest"; "-1 if there are not so many"; "or if place is below 0" */
    private static void placesOfABucket() {
        PeerStores x = PeersTest.star(0, 1, 2, 3);
        check.same("4: of none", x.bucket(0, 7, 0), -1);
        check.same("4: the first of one", x.bucket(0, 0, 0), 1);
        check.same("4: the second of one", x.bucket(0, 0, 1), -1);
        check.same("4: the second of two", x.bucket(0, 1, 1), 3);
        check.same("4: the third of two", x.bucket(0, 1, 2), -1);
        check.same("4: the greatest int", x.bucket(0, 1, Integer.MAX_VALUE), -1);
        check.fails("4: place -1", NO_SUCH, () -> x.bucket(0, 1, -1));
        check.fails("4: the least int", NO_SUCH, () -> x.bucket(0, 1, Integer.MIN_VALUE));
    }

    /** "bucket: 0 to 7" */
    private static void bucketNumbers() {
        PeerStores x = PeersTest.star(0, 1, 255);
        check.same("4: bucket 0", x.bucket(0, 0, 0), 1);
        check.same("4: bucket 7", x.bucket(0, 7, 0), 2);
        check.fails("4: bucket -1", BAD, () -> x.bucket(0, -1, 0));
        check.fails("4: bucket 8", BAD, () -> x.bucket(0, 8, 0));
        check.fails("4: the least int", BAD, () -> x.bucket(0, Integer.MIN_VALUE, 0));
        check.fails("4: the greatest int", BAD, () -> x.bucket(0, Integer.MAX_VALUE, 0));
        check.fails("4: bucket 8, though the place is far out", BAD, () -> x.bucket(0, 8, Integer.MAX_VALUE));
    }

    /** "if it is in its bucket, it goes to the end": of one. */
    private static void heardAlone() {
        PeerStores x = observer(1);
        x.lookup(0, 0, 1);
        bucketIs("4: alone", x, 0, 2, 1, -1);
    }

    /** The same: the oldest of two, in a full bucket. */
    private static void heardOldest() {
        PeerStores x = observer(2);
        x.turn(2, false);
        x.lookup(0, 0, 1);
        bucketIs("4: the oldest is heard of", x, 0, 2, 2, 1);
    }

    /** The same: the newest of two, and nobody is taken out though the oldest is away. */
    private static void heardNewest() {
        PeerStores x = observer(2);
        x.turn(1, false);
        x.lookup(0, 0, 1);
        bucketIs("4: the newest is heard of", x, 0, 2, 1, 2);
    }

    /** "else if there is room, it comes there" */
    private static void heardWithRoom() {
        bucketIs("4: an empty bucket", observer(0), 0, 2, -1, -1);
        bucketIs("4: into an empty bucket", observer(1), 0, 2, 1, -1);
        bucketIs("4: behind one", observer(2), 0, 2, 1, 2);
        PeerStores x = observer(1);
        x.turn(1, false);
        x.peer(5, 0, 0);
        bucketIs("4: behind one who is away", x, 0, 2, 1, 2);
    }

    /** "else the oldest goes to the end, and the new one is not kept" */
    private static void heardAtAFullBucket() {
        bucketIs("4: a third", observer(3), 0, 2, 2, 1);
        bucketIs("4: a fourth", observer(4), 0, 2, 1, 2);
        PeerStores x = new PeerStores();
        x.peer(0, 1, -1);
        x.peer(4, 1, 0);
        x.peer(5, 1, 0);
        x.peer(6, 0, 0);
        bucketIs("4: a silent oldest is online too", x, 0, 2, 2, 1);
    }

    /** "else, if the oldest in the bucket is not online, that is taken out, and the new one comes at the end" */
    private static void heardWithTheOldestAway() {
        PeerStores x = observer(2);
        x.turn(1, false);
        x.peer(6, 0, 0);
        bucketIs("4: the oldest is away", x, 0, 2, 2, 3);
        x.turn(1, true);
        bucketIs("4: it is out though it comes again", x, 0, 2, 2, 3);
        PeerStores y = observer(2);
        y.turn(1, false);
        y.turn(2, false);
        y.peer(6, 0, 0);
        bucketIs("4: both are away", y, 0, 2, 2, 3);
    }

    /** The same: the newest may be away, and the oldest have come again. */
    private static void heardWithOthersAway() {
        PeerStores x = observer(2);
        x.turn(2, false);
        x.peer(6, 0, 0);
        bucketIs("4: the newest is away", x, 0, 2, 2, 1);
        x.peer(7, 0, 0);
        bucketIs("4: it is the oldest then", x, 0, 2, 1, 4);
        PeerStores y = observer(2);
        y.turn(1, false);
        y.turn(1, true);
        y.peer(6, 0, 0);
        bucketIs("4: the oldest went and came", y, 0, 2, 2, 1);
    }

    // ---- lookups

    /** "key: 0 to 255"; "ways: 1 or 2" */
    private static void lookupKeysAndWays() {
        PeerStores x = PeersTest.star(0, 1, 254, 255);
        check.same("5: key 0", x.lookup(0, 0, 1), PeersTest.row(1, 2, 3));
        check.same("5: key 255", x.lookup(0, 255, 1), PeersTest.row(3, 2, 1));
        check.same("5: key 255, two ways", x.lookup(0, 255, 2), PeersTest.row(3, 2, 1));
        check.fails("5: key -1", BAD, () -> x.lookup(0, -1, 1));
        check.fails("5: key 256", BAD, () -> x.lookup(0, 256, 1));
        check.fails("5: no ways", BAD, () -> x.lookup(0, 0, 0));
        check.fails("5: ways 3", BAD, () -> x.lookup(0, 0, 3));
        check.fails("5: ways -1", BAD, () -> x.lookup(0, 0, -1));
        check.fails("5: the greatest ints", BAD, () -> x.lookup(0, Integer.MAX_VALUE, Integer.MAX_VALUE));
        x.turn(0, false);
        check.fails("5: not online", NOT_NOW, () -> x.lookup(0, 0, 1));
        x.turn(0, true);
        check.same("5: online again", x.lookup(0, 0, 1), PeersTest.row(1, 2, 3));
    }

    /** "0 if it is empty": nobody is kept. */
    private static void lookupOfNobody() {
        PeerStores x = PeersTest.star(0, 1);
        x.peer(255, 0, -1);
        for (int ways = 1; ways <= 2; ways++) {
            x.lookup(0, 0, 1);
            check.same("6: one is asked", x.asked(), 1);
            check.same("5: nobody is kept", x.lookup(2, 0, ways), 0);
            check.same("6: so that nobody is asked", x.asked(), 0);
        }
    }

    /** "of those that the peer keeps, the closest first": there is one alone, so the second way's row is empty. */
    private static void lookupOfOne() {
        PeerStores x = PeersTest.star(1, 2);
        for (int ways = 1; ways <= 2; ways++) {
            check.same("5: peer 0 alone", x.lookup(1, 0, ways), 1);
            check.same("5: peer 1 alone", x.lookup(0, 0, ways), 2);
            check.same("6: one", x.asked(), 1);
        }
        x.turn(0, false);
        check.same("5: it is away", x.lookup(1, 0, 2), 0);
        check.same("6: but asked", x.asked(), 1);
    }

    /** "the first one is put into the first way's row, the next one into the second one's, and so on in turns" */
    private static void lookupTurns() {
        int[] ofOneWay = {0, 1, 2, 3, 3, 3, 3, 3};
        int[] ofTwoWays = {0, 1, 2, 3, 4, 5, 6, 6};
        for (int others = 0; others < 8; others++) {
            PeerStores x = new PeerStores();
            x.peer(0, 0, -1);
            for (int b = 0; b < others; b++) {
                x.peer(1 << b, 1, 0);
            }
            check.same("5: all are silent", x.lookup(0, 0, 1), 0);
            check.same("6: one way, of silent ones " + others, x.asked(), ofOneWay[others]);
            check.same("5: all are silent", x.lookup(0, 0, 2), 0);
            check.same("6: two ways, of silent ones " + others, x.asked(), ofTwoWays[others]);
        }
    }

    /** "of the first 3 of its row as it is then": the fourth is none of them, though the third is away. */
    private static void lookupFirstThree() {
        PeerStores x = PeersTest.star(0, 1, 2, 4, 8);
        check.same("5: the first three", x.lookup(0, 0, 1), PeersTest.row(1, 2, 3));
        check.same("6: the fourth is not asked", x.asked(), 3);
        x.turn(3, false);
        check.same("5: the third is away", x.lookup(0, 0, 1), PeersTest.row(1, 2));
        check.same("6: the fourth is not asked in its stead", x.asked(), 3);
        check.same("5: two ways have a first three each", x.lookup(0, 0, 2), PeersTest.row(1, 2, 4));
        check.same("6: so that the fourth is asked", x.asked(), 4);
    }

    /** "the closest 2 that no way has asked yet": the third waits for a round in which it is no more of the first 3. */
    private static void lookupClosestTwo() {
        PeerStores x = new PeerStores();
        x.peer(4, 0, -1);
        x.peer(1, 1, 0);
        x.peer(2, 1, 0);
        x.peer(0, 0, 0);
        x.peer(8, 0, 3);
        x.peer(16, 0, 3);
        check.same("5: two of three, as two silent ones come ahead", x.lookup(3, 0, 1), PeersTest.row(0, 4));
        check.same("6: two, then two", x.asked(), 4);
    }

    /** "both chosen ahead of asking, one behind the other" */
    private static void lookupBothAhead() {
        PeerStores x = new PeerStores();
        x.peer(4, 0, -1);
        x.peer(1, 1, 0);
        x.peer(2, 1, 0);
        x.peer(128, 0, 0);
        x.peer(8, 0, 3);
        check.same("5: the second is asked though the first tells of closer ones", x.lookup(3, 0, 1),
                PeersTest.row(0, 4));
        check.same("6: two, then two", x.asked(), 4);
        PeerStores y = PeersTest.star(0, 4, 5);
        y.lookup(0, 4, 1);
        bucketIs("5: the closest is asked ahead", y, 0, 2, 1, 2);
        y.lookup(0, 5, 1);
        bucketIs("5: so is the other one, if it is closest", y, 0, 2, 2, 1);
    }

    /** "the first way ahead of the second one" */
    private static void lookupFirstWayAhead() {
        PeerStores y = PeersTest.star(0, 4, 5);
        y.lookup(0, 4, 2);
        bucketIs("5: the first way has the closest", y, 0, 2, 1, 2);
        y.lookup(0, 5, 2);
        bucketIs("5: be it the one or the other", y, 0, 2, 2, 1);
    }

    /** "that no way has asked yet": both ways are told of one another's peers, and of the silent one. */
    private static void lookupNobodyTwice() {
        PeerStores x = new PeerStores();
        x.peer(1, 0, -1);
        x.peer(2, 0, 0);
        x.peer(4, 1, 0);
        x.peer(0, 0, 0);
        check.same("5: the two that answer", x.lookup(3, 0, 2), PeersTest.row(0, 1));
        check.same("6: the silent one is asked once", x.asked(), 3);
        check.same("5: one way", x.lookup(3, 0, 1), PeersTest.row(0, 1));
        check.same("6: once too", x.asked(), 3);
    }

    /** "Asking one who is not online, or silent, does nothing" */
    private static void lookupNoAnswer() {
        PeerStores x = new PeerStores();
        x.peer(0, 0, -1);
        x.peer(4, 1, 0);
        x.peer(5, 0, 0);
        x.turn(2, false);
        x.peer(64, 0, 0);
        check.same("5: one answers", x.lookup(0, 4, 1), PeersTest.row(3));
        check.same("6: three are asked", x.asked(), 3);
        bucketIs("5: the asker hears of neither", x, 0, 2, 1, 2);
        check.same("5: nor does a silent one of who asks", x.bucket(1, 6, 0), -1);
        check.same("5: nor one away", x.bucket(2, 6, 0), -1);
        x.turn(3, false);
        check.same("5: nobody answers", x.lookup(0, 4, 2), 0);
        check.same("6: but three are asked", x.asked(), 3);
    }

    /** "hear of one another ..., and then the asked one tells": by hearing, one away is taken out, and not told of. */
    private static void lookupHearsThenTells() {
        PeerStores x = new PeerStores();
        x.peer(0, 0, -1);
        x.peer(4, 1, 0);
        x.peer(5, 1, 0);
        x.peer(6, 0, 0);
        bucketIs("5: the asker is not kept", x, 0, 2, 1, 2);
        x.turn(1, false);
        check.same("5: one answers", x.lookup(3, 6, 1), PeersTest.row(0));
        bucketIs("5: the asker comes in the place of one away", x, 0, 2, 2, 3);
        check.same("6: which is not asked then", x.asked(), 2);
    }

    /** "tells the 3 closest to the key of those that it keeps (the asker may be one of them)" */
    private static void lookupToldThree() {
        int[] asked = {1, 2, 3, 3, 3};
        int[] ids = {1, 4, 5, 6};
        for (int others = 0; others <= 4; others++) {
            PeerStores x = new PeerStores();
            x.peer(7, 0, -1);
            for (int i = 0; i < others; i++) {
                x.peer(ids[i], 1, 0);
            }
            x.peer(0, 0, 0);
            check.same("6: the asker is the first of three, of silent ones " + others, x.asked(), asked[others]);
        }
        // Far from the key, the asker is no one of the three, and all of these come into the row.
        PeerStores y = new PeerStores();
        y.peer(7, 0, -1);
        for (int id : ids) {
            y.peer(id, 1, 0);
        }
        y.peer(128, 0, 0);
        check.same("5: the asker is the fourth", y.lookup(5, 4, 1), PeersTest.row(0));
        check.same("6: three told of, all asked", y.asked(), 4);
    }

    /** "one of a band those of these that are of a band, the 3 closest" */
    private static void lookupToldByTheBand() {
        PeerStores x = new PeerStores();
        x.peer(7, 2, -1);
        for (int id : new int[] {1, 4, 5, 6}) {
            x.peer(id, 2, 0);
        }
        for (int peer = 1; peer <= 4; peer++) {
            x.turn(peer, false);
        }
        x.peer(0, 2, 0);
        check.same("6: the asker is of the band, and one of three", x.asked(), 3);
        PeerStores y = new PeerStores();
        y.peer(7, 2, -1);
        y.peer(1, 0, 0);
        y.peer(4, 1, 0);
        y.peer(0, 0, 0);
        check.same("6: none of the band is kept, none told of", y.asked(), 1);
        y.turn(1, false);
        y.turn(3, false);
        y.peer(32, 2, 0);
        y.peer(64, 0, 0);
        check.same("5: one of the band, behind three closer ones", y.lookup(5, 0, 1), PeersTest.row(0, 4));
        check.same("6: those two alone", y.asked(), 2);
    }

    /** "What is told comes into the row of this way, each once": two that answer tell of the same three. */
    private static void lookupToldOnce() {
        PeerStores x = new PeerStores();
        x.peer(7, 0, -1);
        x.peer(6, 0, 0);
        x.peer(1, 1, 0);
        x.peer(2, 1, 0);
        x.peer(4, 1, 0);
        x.peer(0, 0, 0);
        x.lookup(5, 6, 1);
        check.same("5: both answer", x.lookup(5, 0, 1), PeersTest.row(1, 0));
        check.same("6: the three are the first three, and all asked", x.asked(), 5);
    }

    /** "A lookup of a key by an online peer": of whatever sort. */
    private static void lookupBySilentOrBand() {
        for (int sort = 1; sort <= 2; sort++) {
            PeerStores x = new PeerStores();
            x.peer(0, sort, -1);
            x.peer(1, 0, 0);
            x.peer(2, 0, 1);
            check.same("5: by the sort " + sort, x.lookup(0, 0, 1), PeersTest.row(1, 2));
            check.same("5: who hears of one more", x.bucket(0, 1, 0), 2);
            check.same("5: who is heard of", x.bucket(2, 1, 1), 0);
        }
    }

    /** "Its result are the closest 3 of all that were asked, and answered": of none, one, two, three, four. */
    private static void resultOfThree() {
        int[] due = {0, PeersTest.row(1), PeersTest.row(1, 2), PeersTest.row(1, 2, 3), PeersTest.row(1, 2, 3)};
        for (int others = 0; others <= 4; others++) {
            PeerStores x = new PeerStores();
            for (int i = 0; i <= others; i++) {
                x.peer(i == 0 ? 0 : 1 << i, 0, i == 0 ? -1 : 0);
            }
            check.same("5: two ways, of others " + others, x.lookup(0, 0, 2), due[others]);
            check.same("6: all are asked", x.asked(), others);
        }
        // Four answer, and the one that was asked last is the closest.
        PeerStores y = PeersTest.star(0, 8, 16, 32);
        y.turn(0, false);
        y.peer(1, 0, 1);
        y.turn(0, true);
        check.same("5: found in the second round", y.lookup(0, 0, 1), PeersTest.row(4, 1, 2));
        check.same("6: not the third of the first round", y.asked(), 3);
    }

    /** "in both ways": the second way has one that the first way is not told of. */
    private static void resultOfBothWays() {
        PeerStores x = new PeerStores();
        x.peer(0, 0, -1);
        x.peer(1, 1, 0);
        x.peer(2, 0, 0);
        x.peer(4, 0, 0);
        x.turn(3, false);
        check.same("5: the second way's alone", x.lookup(0, 0, 2), PeersTest.row(2));
        x.turn(3, true);
        check.same("5: the second way's ahead of the first way's", x.lookup(0, 0, 2), PeersTest.row(2, 3));
        check.same("5: and behind it", x.lookup(0, 5, 2), PeersTest.row(3, 2));
    }

    /** "of each peer its number and 1, as digits to the base 32, the closest one lowest" */
    private static void resultDigits() {
        PeerStores x = fifteen();
        check.same("5: 15, 14, 13", x.lookup(0, 255, 1), 16 + 32 * 15 + 32 * 32 * 14);
        check.same("7: 15, 14, 13", x.closest(0, 255), 16 + 32 * 15 + 32 * 32 * 14);
        check.same("5: 0 and others", x.lookup(1, 0, 1) % 32, 1);
        check.same("5: 1, 2, 3", x.lookup(0, 0, 1), 2 + 32 * 3 + 32 * 32 * 4);
    }

    /** "how many peers were asked by the latest lookup of all, those within other calls too; 0 if there was none" */
    private static void askedOfTheLatest() {
        PeerStores x = new PeerStores();
        check.same("6: none", x.asked(), 0);
        x.peer(0, 0, -1);
        check.same("6: none yet", x.asked(), 0);
        x.peer(1, 0, 0);
        check.same("6: within peer()", x.asked(), 1);
        x.peer(255, 0, -1);
        check.same("6: not without joining", x.asked(), 1);
        x.lookup(2, 0, 1);
        check.same("6: of nobody", x.asked(), 0);
        x.file(0, 5);
        check.same("6: within file(), of the last piece alone", x.asked(), 1);
        x.file(2, 5);
        check.same("6: within file(), of nobody", x.asked(), 0);
        x.tell(0, 7, 1, 1);
        check.same("6: within tell()", x.asked(), 1);
        x.lookup(2, 0, 1);
        x.name(0, 7);
        check.same("6: within name()", x.asked(), 1);
        x.closest(2, 0);
        x.spread(2);
        x.fetch(1, 0);
        x.net();
        x.pass();
        x.turn(1, false);
        check.same("6: not within others", x.asked(), 1);
        check.fails("6: a call that throws", NOT_NOW, () -> x.lookup(1, 0, 1));
        check.fails("6: another one", BAD, () -> x.tell(0, 7, 1, 1000));
        check.same("6: asks nobody", x.asked(), 1);
    }

    /** The same: a day asks if pieces are stored anew, and not otherwise. */
    private static void askedWithinPass() {
        PeerStores x = PeersTest.star(0, 1, 2, 4, 128, 200, 7, 64);
        x.peer(255, 0, -1);
        x.file(0, 0x01020304);
        x.spoil(0, 0);
        x.spoil(0, 1);
        x.lookup(8, 0, 1);
        x.pass();
        x.pass();
        check.same("6: nothing is stored", x.asked(), 0);
        x.pass();
        check.same("16: both are stored", x.piece(0, 0, 2) + x.piece(0, 1, 2), 2);
        check.same("6: so that some are asked", x.asked() > 0, true);
    }

    // ---- closest

    /** "of all peers that are online and not silent, but for the one who asks": of nobody, and of one. */
    private static void closestOfNone() {
        PeerStores x = PeersTest.strangers(9);
        check.same("7: nobody else", x.closest(0, 9), 0);
        x.peer(10, 1, -1);
        check.same("7: one silent", x.closest(0, 9), 0);
        x.peer(11, 0, -1);
        x.turn(2, false);
        check.same("7: one away", x.closest(0, 9), 0);
        check.same("7: one for who is away", x.closest(2, 9), PeersTest.row(0));
        x.turn(0, false);
        check.same("7: nobody for who is away", x.closest(2, 9), 0);
        x.peer(12, 2, -1);
        check.same("7: one of a band", x.closest(0, 9), PeersTest.row(3));
    }

    /** "Returns the same as lookup()": at most three. */
    private static void closestOfThree() {
        PeerStores x = PeersTest.strangers(0, 1, 2, 4, 8);
        check.same("7: three of four", x.closest(0, 0), PeersTest.row(1, 2, 3));
        check.same("7: the asker is none of them", x.closest(1, 0), PeersTest.row(0, 2, 3));
        x.turn(2, false);
        check.same("7: three", x.closest(0, 0), PeersTest.row(1, 3, 4));
        x.turn(3, false);
        check.same("7: two", x.closest(0, 0), PeersTest.row(1, 4));
        x.turn(1, false);
        check.same("7: one", x.closest(0, 0), PeersTest.row(4));
        check.same("7: of fifteen", fifteen().closest(15, 254), PeersTest.row(14, 13, 12));
    }

    /** "key: 0 to 255" */
    private static void closestKeys() {
        PeerStores x = PeersTest.strangers(0, 1, 255);
        check.same("7: key 0", x.closest(0, 0), PeersTest.row(1, 2));
        check.same("7: key 255", x.closest(0, 255), PeersTest.row(2, 1));
        check.fails("7: key -1", BAD, () -> x.closest(0, -1));
        check.fails("7: key 256", BAD, () -> x.closest(0, 256));
        check.fails("7: the least int", BAD, () -> x.closest(0, Integer.MIN_VALUE));
        check.fails("7: the greatest int", BAD, () -> x.closest(0, Integer.MAX_VALUE));
        check.fails("7: peer 3 ahead of it", NO_SUCH, () -> x.closest(3, 256));
    }

    /** "with nothing being heard" */
    private static void closestHearsNothing() {
        PeerStores x = PeersTest.strangers(0, 1, 2);
        x.closest(0, 0);
        for (int peer = 0; peer < 3; peer++) {
            bucketIs("7: nobody hears", x, peer, 0, -1, -1);
            bucketIs("7: nobody hears", x, peer, 1, -1, -1);
        }
        PeerStores y = observer(2);
        y.closest(0, 4);
        bucketIs("7: who is kept stays in its place", y, 0, 2, 1, 2);
        check.same("7: nobody is asked", y.asked(), 1);
    }
}
