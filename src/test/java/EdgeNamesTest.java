/** The boundary cases of promises 17 to 20: each test stands below the sentence of the document that it holds. */
public final class EdgeNamesTest {
    private static final Class<?> BAD = IllegalArgumentException.class;
    private static final Class<?> NO_SUCH = IndexOutOfBoundsException.class;
    private static final Class<?> NOT_NOW = IllegalStateException.class;
    private static final int LEAST = Integer.MIN_VALUE;
    private static final int GREATEST = Integer.MAX_VALUE;
    private static final Check check = new Check("EdgeNamesTest");

    public static void main(String[] args) {
        toldKeys();
        toldNumbers();
        toldValues();
        toldByPeers();
        allNames();
        toldToNobody();
        toldToOneTwoThree();
        lowerNumbers();
        firstTeller();
        refusedTeller();
        honestKeepers();
        askedOfNone();
        askedOfTheLast();
        askedByTheKeeper();
        askedKeys();
        greatestNumber();
        sameNumbers();
        messageToNobody();
        messageToAllAtOnce();
        messageAlongAChain();
        messageStops();
        messageByAnySort();
        messageNotTwice();
        messageHearsNothing();
        roundsOfTheLatest();
        messageByPeers();
        check.finish();
    }

    /**
     * Each joins by the one ahead of it while all others are away: so it keeps that one and the one behind it alone.
     * The sorts beside 0 are given by peer.
     */
    private static PeerStores chain(int length, int... sorts) {
        PeerStores x = new PeerStores();
        for (int peer = 0; peer < length; peer++) {
            x.peer(peer, peer < sorts.length ? sorts[peer] : 0, peer - 1);
            if (peer > 0) {
                x.turn(peer - 1, false);
            }
        }
        for (int peer = 0; peer < length; peer++) {
            x.turn(peer, true);
        }
        return x;
    }

    // ---- tell

    /** "key: 0 to 255" */
    private static void toldKeys() {
        PeerStores x = PeersTest.star(0, 1);
        check.same("17: key 0", x.tell(0, 0, 1, 10), 1);
        check.same("17: key 255", x.tell(0, 255, 1, 20), 1);
        check.same("18: key 0", x.name(0, 0), 1010);
        check.same("18: key 255", x.name(0, 255), 1020);
        check.fails("17: key -1", BAD, () -> x.tell(0, -1, 1, 1));
        check.fails("17: key 256", BAD, () -> x.tell(0, 256, 1, 1));
        check.fails("17: the least int", BAD, () -> x.tell(0, LEAST, 1, 1));
        check.fails("17: the greatest int", BAD, () -> x.tell(0, GREATEST, 1, 1));
    }

    /** "number: 0 to 999" */
    private static void toldNumbers() {
        PeerStores x = PeersTest.star(0, 1);
        check.fails("17: number -1", BAD, () -> x.tell(0, 7, -1, 1));
        check.fails("17: number 1000", BAD, () -> x.tell(0, 7, 1000, 1));
        check.fails("17: the least int", BAD, () -> x.tell(0, 7, LEAST, 1));
        check.fails("17: the greatest int", BAD, () -> x.tell(0, 7, GREATEST, 1));
        check.same("18: none is kept by that", x.name(0, 7), -1);
        check.same("17: number 0", x.tell(0, 7, 0, 0), 1);
        check.same("18: number 0, value 0", x.name(0, 7), 0);
        check.same("17: number 999", x.tell(0, 7, 999, 0), 1);
        check.same("18: number 999, value 0", x.name(0, 7), 999000);
        check.same("17: number 999 again", x.tell(0, 7, 999, 1), 0);
    }

    /** "value: 0 to 999" */
    private static void toldValues() {
        PeerStores x = PeersTest.star(0, 1);
        check.fails("17: value -1", BAD, () -> x.tell(0, 7, 1, -1));
        check.fails("17: value 1000", BAD, () -> x.tell(0, 7, 1, 1000));
        check.fails("17: the least int", BAD, () -> x.tell(0, 7, 1, LEAST));
        check.fails("17: the greatest int", BAD, () -> x.tell(0, 7, 1, GREATEST));
        check.same("17: value 999", x.tell(0, 7, 0, 999), 1);
        check.same("18: number 0, value 999", x.name(0, 7), 999);
        check.same("17: a greater number with a lower value", x.tell(0, 7, 1, 0), 1);
        check.same("18: number 1, value 0", x.name(0, 7), 1000);
        check.same("17: both at their greatest", x.tell(0, 7, 999, 999), 1);
        check.same("18: number 999, value 999", x.name(0, 7), 999999);
    }

    /** "as told"; "if the peer is not online" */
    private static void toldByPeers() {
        PeerStores x = PeersTest.star(0, 1);
        check.fails("17: peer 2", NO_SUCH, () -> x.tell(2, 7, 1, 1));
        check.fails("17: peer -1", NO_SUCH, () -> x.tell(-1, 7, 1, 1));
        check.fails("17: the greatest int", NO_SUCH, () -> x.tell(GREATEST, 7, 1, 1));
        check.fails("17: ahead of all others", NO_SUCH, () -> x.tell(LEAST, -1, -1, -1));
        x.turn(1, false);
        check.fails("17: away", NOT_NOW, () -> x.tell(1, 7, 1, 1));
        check.fails("17: away, key 256", BAD, () -> x.tell(1, 256, 1, 1));
        check.fails("17: away, number 1000", BAD, () -> x.tell(1, 7, 1000, 1));
        check.fails("17: away, value 1000", BAD, () -> x.tell(1, 7, 1, 1000));
    }

    /** "A name is a key": all 256 of them, kept by one peer. */
    private static void allNames() {
        PeerStores x = PeersTest.star(0, 1);
        for (int key = 0; key < 256; key++) {
            check.same("17: kept", x.tell(0, key, 3 * key, 999 - key), 1);
        }
        for (int key = 2; key < 256; key++) {
            check.same("18: the name " + key, x.name(0, key), 3000 * key + 999 - key);
        }
    }

    /** "Returns how many keep it so by that": nobody; and yet it is told. */
    private static void toldToNobody() {
        PeerStores x = PeersTest.strangers(0, 1);
        check.same("17: the result is empty", x.tell(0, 7, 1, 1), 0);
        check.same("18: the teller keeps nothing itself", x.name(0, 7), -1);
        check.fails("17: but it has told it first", NOT_NOW, () -> x.tell(1, 7, 1, 1));
        PeerStores y = PeersTest.star(0, 1);
        y.turn(1, false);
        check.same("17: who is kept is away", y.tell(0, 7, 1, 1), 0);
        y.turn(1, true);
        check.same("18: and was not told", y.name(0, 7), -1);
    }

    /** "each of the result": of none, one, two, three, and of four, of whom three are the result. */
    private static void toldToOneTwoThree() {
        int[] due = {0, 1, 2, 3, 3};
        for (int others = 0; others <= 4; others++) {
            PeerStores x = new PeerStores();
            for (int i = 0; i <= others; i++) {
                x.peer(i == 0 ? 0 : 1 << i, 0, i == 0 ? -1 : 0);
            }
            check.same("17: of others " + others, x.tell(0, 0, 1, 1), due[others]);
            check.same("6: two ways ask all", x.asked(), others);
        }
    }

    /** "if it keeps none of the name, or one with a lower number" */
    private static void lowerNumbers() {
        PeerStores x = PeersTest.star(0, 1);
        check.same("17: none", x.tell(0, 7, 5, 500), 1);
        check.same("17: the same number, a greater value", x.tell(0, 7, 5, 501), 0);
        check.same("17: the same number, a lower value", x.tell(0, 7, 5, 499), 0);
        check.same("17: one lower", x.tell(0, 7, 4, 999), 0);
        check.same("18: as told at first", x.name(0, 7), 5500);
        check.same("17: one greater", x.tell(0, 7, 6, 0), 1);
        check.same("18: told anew", x.name(0, 7), 6000);
        check.same("17: of another name none is kept", x.tell(0, 8, 0, 0), 1);
    }

    /** "the name is of its first teller for ever, no one else can tell it"; "or the name is another one's" */
    private static void firstTeller() {
        PeerStores x = PeersTest.star(0, 1, 2);
        x.tell(1, 7, 5, 1);
        check.fails("17: the number 999 of another one", NOT_NOW, () -> x.tell(0, 7, 999, 1));
        check.same("17: the first one's greater number", x.tell(1, 7, 6, 1), 2);
        x.turn(1, false);
        check.fails("17: while the first one is away", NOT_NOW, () -> x.tell(2, 7, 999, 1));
        x.turn(1, true);
        for (int i = 0; i < 10; i++) {
            x.pass();
        }
        check.fails("17: days later", NOT_NOW, () -> x.tell(2, 7, 999, 1));
        check.same("18: the first one's stands", x.name(0, 7), 6001);
        check.same("17: the neighbours are free", x.tell(0, 6, 1, 1) + x.tell(2, 8, 1, 1), 4);
    }

    /** "When a call throws, nothing has changed": who was refused is no first teller. */
    private static void refusedTeller() {
        PeerStores x = PeersTest.star(0, 1, 2);
        x.turn(0, false);
        check.fails("17: away", NOT_NOW, () -> x.tell(0, 7, 1, 1));
        x.turn(0, true);
        check.fails("17: number 1000", BAD, () -> x.tell(0, 7, 1000, 1));
        check.fails("17: value 1000", BAD, () -> x.tell(0, 7, 1, 1000));
        check.same("17: another one is the first", x.tell(1, 7, 1, 1), 2);
        check.fails("17: so that it is not", NOT_NOW, () -> x.tell(0, 7, 1, 1));
    }

    /** "if it is honest": neither one of a band nor a silent one keeps a name. */
    private static void honestKeepers() {
        PeerStores x = new PeerStores();
        x.peer(0, 2, -1);
        x.peer(1, 2, 0);
        x.peer(2, 1, 0);
        check.same("17: no honest one", x.tell(0, 7, 1, 1), 0);
        check.same("18: no honest one", x.name(0, 7), -1);
        check.same("5: though one of the band is the result", x.lookup(0, 7, 2), PeersTest.row(1));
        x.peer(3, 0, 0);
        check.same("17: one", x.tell(0, 7, 0, 1), 1);
        check.same("18: one", x.name(0, 7), 1);
    }

    // ---- name

    /** "-1 if none of the result keeps it" */
    private static void askedOfNone() {
        PeerStores x = PeersTest.star(0, 1, 2);
        check.same("18: never told", x.name(0, 7), -1);
        x.tell(0, 7, 0, 0);
        check.same("18: told, 0 and 0", x.name(0, 7), 0);
        check.same("18: another one", x.name(0, 6), -1);
        x.turn(1, false);
        x.turn(2, false);
        check.same("18: the keepers are away", x.name(0, 7), -1);
        PeerStores y = PeersTest.strangers(0);
        check.same("18: the result is empty", y.name(0, 7), -1);
        check.same("6: nobody is asked", y.asked(), 0);
    }

    /** "of the result": the third is of it, the fourth is not, and the sixteenth peer may be. */
    private static void askedOfTheLast() {
        int[] due = {5005, 5005, 5005, -1};
        for (int keeper = 1; keeper <= 4; keeper++) {
            PeerStores x = PeersTest.star(0, 1, 2, 4, 8);
            for (int other = 1; other <= 4; other++) {
                x.turn(other, other == keeper);
            }
            check.same("17: by one alone", x.tell(0, 0, 5, 5), 1);
            for (int other = 1; other <= 4; other++) {
                x.turn(other, true);
            }
            check.same("18: by the " + keeper + ". of the result", x.name(0, 0), due[keeper - 1]);
            check.same("6: all four are asked", x.asked(), 4);
        }
        PeerStores y = new PeerStores();
        for (int i = 0; i < 15; i++) {
            y.peer(16 + i, 0, -1);
        }
        y.peer(0, 0, 14);
        check.same("18: the sixteenth keeps none", y.name(14, 7), -1);
        check.same("17: the sixteenth keeps 0 and 0", y.tell(14, 7, 0, 0), 1);
        check.same("18: and tells it", y.name(14, 7), 0);
        check.same("17: the sixteenth tells", y.tell(15, 8, 0, 1), 1);
        check.fails("17: and nobody else", NOT_NOW, () -> y.tell(14, 8, 1, 1));
    }

    /** "of what honest ones of the result keep": who asks is not of the result. */
    private static void askedByTheKeeper() {
        PeerStores x = PeersTest.star(0, 1);
        check.same("17: the peer 1 keeps it", x.tell(0, 7, 1, 1), 1);
        check.same("18: it asks the peer 0, which does not", x.name(1, 7), -1);
        check.same("18: the peer 0 asks it", x.name(0, 7), 1001);
    }

    /** "key: 0 to 255"; "as told"; "if the peer is not online" */
    private static void askedKeys() {
        PeerStores x = PeersTest.star(0, 1);
        x.tell(0, 0, 1, 1);
        x.tell(0, 255, 2, 2);
        check.fails("18: key -1", BAD, () -> x.name(0, -1));
        check.fails("18: key 256", BAD, () -> x.name(0, 256));
        check.fails("18: the least int", BAD, () -> x.name(0, LEAST));
        check.fails("18: the greatest int", BAD, () -> x.name(0, GREATEST));
        check.fails("18: peer 2", NO_SUCH, () -> x.name(2, 0));
        check.fails("18: peer -1, key 256", NO_SUCH, () -> x.name(-1, 256));
        x.turn(0, false);
        check.fails("18: away", NOT_NOW, () -> x.name(0, 0));
        check.fails("18: away, key 256", BAD, () -> x.name(0, 256));
        x.turn(0, true);
        check.same("18: key 0", x.name(0, 0), 1001);
        check.same("18: key 255", x.name(0, 255), 2002);
    }

    /** Peer 1 keeps one and peer 2 another; peer 1 is closer to the key 1, peer 2 to the key 2. */
    private static PeerStores twoKeepers(int key, int firstNumber, int firstValue, int secondNumber, int secondValue) {
        PeerStores x = PeersTest.star(0, 1, 2);
        x.turn(2, false);
        x.tell(0, key, firstNumber, firstValue);
        x.turn(2, true);
        x.turn(1, false);
        x.tell(0, key, secondNumber, secondValue);
        x.turn(1, true);
        return x;
    }

    /** "that with the greatest number": the closer one's, the other one's, by one alone, and with the lower value. */
    private static void greatestNumber() {
        check.same("18: the closer one's", twoKeepers(1, 6, 0, 5, 999).name(0, 1), 6000);
        check.same("18: the farther one's", twoKeepers(1, 5, 999, 6, 0).name(0, 1), 6000);
        check.same("18: the closer one's", twoKeepers(2, 5, 999, 6, 0).name(0, 2), 6000);
        check.same("18: the farther one's", twoKeepers(2, 6, 0, 5, 999).name(0, 2), 6000);
        check.same("18: 0 and 999", twoKeepers(1, 0, 1, 999, 2).name(0, 1), 999002);
    }

    /** "of several that of the closest one" */
    private static void sameNumbers() {
        check.same("18: the lower value", twoKeepers(1, 5, 111, 5, 222).name(0, 1), 5111);
        check.same("18: the greater value", twoKeepers(1, 5, 222, 5, 111).name(0, 1), 5222);
        check.same("18: the lower value, told first", twoKeepers(2, 5, 222, 5, 111).name(0, 2), 5111);
        check.same("18: the greater value, told last", twoKeepers(2, 0, 0, 0, 999).name(0, 2), 999);
    }

    // ---- spread, rounds

    /** "It ends when nobody new gets it": nobody at all. */
    private static void messageToNobody() {
        PeerStores x = PeersTest.strangers(0, 1);
        check.same("20: no message", x.rounds(), 0);
        check.same("19: nobody is kept", x.spread(0), 0);
        check.same("20: no round", x.rounds(), 0);
        PeerStores y = PeersTest.star(0, 1);
        y.turn(1, false);
        check.same("19: the one kept is away", y.spread(0), 0);
        y.turn(1, true);
        check.same("19: it is there", y.spread(0), 1);
        PeerStores z = new PeerStores();
        z.peer(0, 0, -1);
        z.peer(1, 1, 0);
        check.same("19: the one kept is silent", z.spread(0), 0);
        check.same("20: no round", z.rounds(), 0);
    }

    /** "to all that it keeps": fifteen in one round. */
    private static void messageToAllAtOnce() {
        PeerStores x = PeersTest.star(0, 1, 2, 3, 4, 7, 8, 15, 16, 31, 32, 63, 64, 127, 128, 255);
        check.same("19: all others", x.spread(0), 15);
        check.same("20: in one round", x.rounds(), 1);
    }

    /** "then in each by those that got it in the round before": one in each of fifteen rounds. */
    private static void messageAlongAChain() {
        for (int length = 1; length <= 16; length++) {
            PeerStores x = chain(length);
            check.same("19: from the first", x.spread(0), length - 1);
            check.same("20: from the first", x.rounds(), length - 1);
            check.same("19: from the last", x.spread(length - 1), length - 1);
            check.same("20: from the last", x.rounds(), length - 1);
        }
        PeerStores y = chain(16);
        check.same("19: from the middle", y.spread(7), 15);
        check.same("20: the longer way", y.rounds(), 8);
    }

    /** "and are honest"; "who are online and not silent" */
    private static void messageStops() {
        PeerStores x = chain(6, 0, 0, 0, 2, 0, 0);
        check.same("19: one of a band gets it, and tells nobody", x.spread(0), 3);
        check.same("20: three rounds", x.rounds(), 3);
        PeerStores y = chain(6, 0, 0, 0, 1, 0, 0);
        check.same("19: a silent one does not get it", y.spread(0), 2);
        check.same("20: two rounds", y.rounds(), 2);
        PeerStores z = chain(6);
        z.turn(3, false);
        check.same("19: nor does one away", z.spread(0), 2);
        check.same("20: two rounds", z.rounds(), 2);
        check.same("19: nor from the other side", z.spread(5), 1);
        check.same("20: one round", z.rounds(), 1);
        z.turn(3, true);
        check.same("19: when it is there", z.spread(5), 5);
    }

    /** "in the first one by the teller, whatever its sort" */
    private static void messageByAnySort() {
        for (int sort = 0; sort <= 2; sort++) {
            PeerStores x = chain(3, sort);
            check.same("19: by the sort " + sort, x.spread(0), 2);
            check.same("20: by the sort " + sort, x.rounds(), 2);
            PeerStores y = chain(3, 0, sort);
            check.same("19: by one in the middle", y.spread(1), 2);
            check.same("20: by one in the middle", y.rounds(), 1);
        }
    }

    /** "and have not got it": all know all, and each is told once. */
    private static void messageNotTwice() {
        PeerStores x = PeersTest.star(0, 1, 2, 3);
        for (int teller = 0; teller < 4; teller++) {
            check.same("19: three others", x.spread(teller), 3);
            check.same("20: one round", x.rounds(), 1);
        }
        PeerStores y = chain(2);
        check.same("19: the teller gets nothing back", y.spread(1), 1);
        check.same("20: so that one round is all", y.rounds(), 1);
    }

    /** A message is told, not asked: "hears" stands at joining and asking alone. */
    private static void messageHearsNothing() {
        PeerStores x = PeersTest.star(0, 4, 5);
        int asked = x.asked();
        x.spread(1);
        check.same("4: the oldest stays the oldest", x.bucket(0, 2, 0), 1);
        check.same("6: nobody is asked", x.asked(), asked);
    }

    /** "how many rounds the latest message took in which somebody got it; 0 if there was none" */
    private static void roundsOfTheLatest() {
        PeerStores x = chain(4);
        check.same("20: none", x.rounds(), 0);
        x.spread(0);
        check.same("20: three", x.rounds(), 3);
        x.spread(1);
        check.same("20: two", x.rounds(), 2);
        x.turn(0, false);
        check.fails("20: a call that throws", NOT_NOW, () -> x.spread(0));
        check.fails("20: another one", NO_SUCH, () -> x.spread(4));
        check.same("20: are no messages", x.rounds(), 2);
        x.turn(2, false);
        check.same("19: alone", x.spread(1), 0);
        check.same("20: none", x.rounds(), 0);
    }

    /** "as told"; "if the peer is not online" */
    private static void messageByPeers() {
        PeerStores x = PeersTest.star(0, 1);
        check.fails("19: peer 2", NO_SUCH, () -> x.spread(2));
        check.fails("19: peer -1", NO_SUCH, () -> x.spread(-1));
        check.fails("19: the least int", NO_SUCH, () -> x.spread(LEAST));
        check.fails("19: the greatest int", NO_SUCH, () -> x.spread(GREATEST));
        x.turn(1, false);
        check.fails("19: away", NOT_NOW, () -> x.spread(1));
        x.turn(1, true);
        check.same("19: there", x.spread(1), 1);
    }
}
