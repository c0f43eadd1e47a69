/** Promises 17 to 20: tell, name, spread, rounds. */
public final class NamesTest {
    private static final Class<?> BAD = IllegalArgumentException.class;
    private static final Class<?> NO_SUCH = IndexOutOfBoundsException.class;
    private static final Class<?> NOT_NOW = IllegalStateException.class;
    private static final Check check = new Check("NamesTest");

    public static void main(String[] args) {
        tells();
        tellRefused();
        tellNumbers();
        tellToHonestOnes();
        namesOfTheirTeller();
        names();
        nameOfTheClosest();
        nameRefused();
        spreads();
        spreadBySorts();
        spreadRefused();
        check.finish();
    }

    private static void tells() {
        PeerStores x = PeersTest.star(0, 1, 2, 4, 8);
        check.same("17: three keep it", x.tell(0, 7, 1, 100), 3);
        check.same("18: it is found", x.name(1, 7), 1100);
        check.same("17: two ways are gone", x.asked() > 0, true);
        check.same("17: the bounds", x.tell(0, 255, 999, 999), 3);
        check.same("18: the bounds", x.name(1, 255), 999999);
        check.same("17: zeros", x.tell(0, 0, 0, 0), 3);
        check.same("18: zeros", x.name(0, 0), 0);
        PeerStores z = PeersTest.star(0, 1);
        check.same("17: the peer 0 keeps one too", z.tell(1, 5, 0, 7), 1);
        check.same("18: and tells it", z.name(1, 5), 7);
        PeerStores y = PeersTest.strangers(5);
        check.same("17: nobody keeps it", y.tell(0, 5, 1, 1), 0);
        check.same("18: nor does the teller", y.name(0, 5), -1);
    }

    private static void tellRefused() {
        PeerStores x = PeersTest.star(0, 1, 2);
        check.fails("17: no such peer", NO_SUCH, () -> x.tell(3, 1, 1, 1));
        check.fails("17: peer ahead of key", NO_SUCH, () -> x.tell(-1, 256, 1, 1));
        check.fails("17: key below 0", BAD, () -> x.tell(0, -1, 1, 1));
        check.fails("17: key 256", BAD, () -> x.tell(0, 256, 1, 1));
        check.fails("17: number below 0", BAD, () -> x.tell(0, 1, -1, 1));
        check.fails("17: number 1000", BAD, () -> x.tell(0, 1, 1000, 1));
        check.fails("17: value below 0", BAD, () -> x.tell(0, 1, 1, -1));
        check.fails("17: value 1000", BAD, () -> x.tell(0, 1, 1, 1000));
        x.turn(0, false);
        check.fails("17: away", NOT_NOW, () -> x.tell(0, 1, 1, 1));
        check.fails("17: value ahead of being away", BAD, () -> x.tell(0, 1, 1, 1000));
        check.same("17: a call that throws claims no name", x.tell(1, 1, 1, 1) > 0, true);
    }

    private static void tellNumbers() {
        PeerStores x = PeersTest.star(0, 1, 2, 4);
        check.same("17: none is kept", x.tell(0, 9, 5, 1), 3);
        check.same("17: the same number", x.tell(0, 9, 5, 2), 0);
        check.same("17: a lower number", x.tell(0, 9, 4, 999), 0);
        check.same("18: the first stays", x.name(0, 9), 5001);
        x.turn(1, false);
        check.same("17: a greater number, by those that are there", x.tell(0, 9, 6, 3), 2);
        x.turn(1, true);
        check.same("17: again, by who was away", x.tell(0, 9, 6, 4), 1);
        check.same("17: a greater one by all", x.tell(0, 9, 7, 0), 3);
        check.same("18: the greatest number", x.name(1, 9), 7000);
    }

    private static void tellToHonestOnes() {
        PeerStores x = new PeerStores();
        x.peer(0, 0, -1);
        x.peer(1, 2, 0);
        x.peer(2, 1, 0);
        x.peer(4, 0, 0);
        check.same("17: the honest one keeps it", x.tell(0, 1, 1, 1), 1);
        x.turn(3, false);
        check.same("18: one of a band keeps none", x.name(0, 1), -1);
        PeerStores y = new PeerStores();
        y.peer(0, 2, -1);
        y.peer(1, 0, 0);
        check.same("17: one of a band may tell", y.tell(0, 1, 1, 1), 1);
    }

    private static void namesOfTheirTeller() {
        PeerStores x = PeersTest.star(0, 1, 2);
        x.tell(1, 9, 5, 1);
        check.fails("17: another one's", NOT_NOW, () -> x.tell(0, 9, 6, 1));
        check.fails("17: number ahead of that", BAD, () -> x.tell(0, 9, 1000, 1));
        check.same("18: nothing has changed", x.name(0, 9), 5001);
        x.turn(1, false);
        check.fails("17: for ever", NOT_NOW, () -> x.tell(0, 9, 7, 1));
        check.same("17: another name", x.tell(0, 8, 7, 1), 1);
        PeerStores y = PeersTest.strangers(5, 6);
        y.tell(0, 9, 1, 1);
        check.fails("17: though nobody keeps it", NOT_NOW, () -> y.tell(1, 9, 1, 1));
        check.same("17: itself it can", y.tell(0, 9, 1, 1), 0);
    }

    private static void names() {
        PeerStores x = PeersTest.star(0, 1, 2, 4);
        check.same("18: never told", x.name(0, 3), -1);
        check.same("18: a lookup is gone", x.asked(), 3);
        x.tell(0, 3, 0, 7);
        check.same("18: number 0", x.name(0, 3), 7);
        check.same("18: another key", x.name(0, 4), -1);
        PeerStores y = PeersTest.star(0, 1, 2);
        y.turn(2, false);
        y.tell(0, 3, 9, 1);
        y.turn(2, true);
        y.turn(1, false);
        y.tell(0, 3, 8, 2);
        check.same("18: of those that answer", y.name(0, 3), 8002);
        y.turn(1, true);
        check.same("18: the greatest number", y.name(0, 3), 9001);
        PeerStores z = PeersTest.star(0, 1, 2, 4, 8);
        for (int other = 1; other < 4; other++) {
            z.turn(other, false);
        }
        check.same("17: by one that is left", z.tell(0, 0, 9, 9), 1);
        check.same("18: by the one that keeps it", z.name(0, 0), 9009);
        for (int other = 1; other < 4; other++) {
            z.turn(other, true);
        }
        check.same("18: not by a fourth", z.name(0, 0), -1);
        check.same("6: though it is asked", z.asked(), 4);
    }

    /** Two keep the same number with two values; the closer one is heard. */
    private static void nameOfTheClosest() {
        PeerStores x = PeersTest.star(0, 1, 2);
        x.turn(1, false);
        x.tell(0, 1, 5, 222);
        x.turn(1, true);
        x.turn(2, false);
        x.tell(0, 1, 5, 111);
        x.turn(2, true);
        check.same("18: the closest one's, told last", x.name(0, 1), 5111);
        PeerStores y = PeersTest.star(0, 1, 2);
        y.turn(2, false);
        y.tell(0, 1, 5, 222);
        y.turn(2, true);
        y.turn(1, false);
        y.tell(0, 1, 5, 111);
        y.turn(1, true);
        check.same("18: the closest one's, told first", y.name(0, 1), 5222);
    }

    private static void nameRefused() {
        PeerStores x = PeersTest.star(0, 1);
        check.fails("18: no such peer", NO_SUCH, () -> x.name(2, 1));
        check.fails("18: peer ahead of key", NO_SUCH, () -> x.name(-1, 256));
        check.fails("18: key below 0", BAD, () -> x.name(0, -1));
        check.fails("18: key 256", BAD, () -> x.name(0, 256));
        x.turn(0, false);
        check.fails("18: away", NOT_NOW, () -> x.name(0, 1));
        check.fails("18: key ahead of being away", BAD, () -> x.name(0, 256));
    }

    private static void spreads() {
        PeerStores x = PeersTest.star(0, 1, 2, 4);
        check.same("19: all others", x.spread(0), 3);
        check.same("20: in one round", x.rounds(), 1);
        check.same("19: by another one", x.spread(3), 3);
        x.turn(1, false);
        check.same("19: not to those away", x.spread(0), 2);
        PeerStores y = PeersTest.strangers(0, 1);
        check.same("19: nobody is kept", y.spread(0), 0);
        check.same("20: no round", y.rounds(), 0);
        PeerStores z = new PeerStores();
        z.peer(0, 1, -1);
        z.peer(1, 0, 0);
        z.peer(3, 1, -1);
        z.peer(2, 0, 2);
        check.same("19: who joins by a silent one hears of it alone", z.spread(1), 0);
        check.same("20: no round", z.rounds(), 0);
        check.same("19: a silent one tells its own", z.spread(0), 1);
        check.same("20: one round", z.rounds(), 1);
        check.fails("20: a call that throws", NO_SUCH, () -> z.spread(9));
        check.same("20: changes nothing", z.rounds(), 1);
    }

    /** Silent 0 keeps 1, and 1 keeps silent 0 alone, until 2 joins by 1. */
    private static void spreadBySorts() {
        PeerStores x = new PeerStores();
        x.peer(0, 1, -1);
        x.peer(1, 0, 0);
        x.peer(2, 0, 1);
        check.same("19: told on", x.spread(0), 2);
        check.same("20: in two rounds", x.rounds(), 2);
        check.same("19: not to a silent one", x.spread(2), 1);
        check.same("20: one round", x.rounds(), 1);
        PeerStores y = new PeerStores();
        y.peer(0, 1, -1);
        y.peer(1, 2, 0);
        y.peer(2, 0, 1);
        check.same("19: one of a band gets it, and tells nobody", y.spread(0), 1);
        check.same("19: but tells its own", y.spread(1), 1);
        check.same("20: in one round", y.rounds(), 1);
    }

    private static void spreadRefused() {
        PeerStores x = PeersTest.star(0, 1);
        x.spread(0);
        check.fails("19: no such peer", NO_SUCH, () -> x.spread(2));
        check.fails("19: below 0", NO_SUCH, () -> x.spread(-1));
        x.turn(1, false);
        check.fails("19: away", NOT_NOW, () -> x.spread(1));
        check.same("20: still the latest message", x.rounds(), 1);
        check.same("19: to nobody", x.spread(0), 0);
        check.same("20: then no round", x.rounds(), 0);
    }
}
