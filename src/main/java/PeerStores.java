/**
 * Peers that find, store and mend pieces for one another. The promises that the methods keep are
 * numbered in ../shared/DOC.md; the classes inside are ordered as its terms are.
 */
public final class PeerStores {
    private static final int NONE = -1;

    private static final int MOST_PEERS = 16;
    private static final int HONEST = 0;
    private static final int SILENT = 1;
    private static final int BAND = 2;
    private static final int BYTES = 256;

    private static final int BUCKETS = 8;
    private static final int BUCKET_SIZE = 2;

    /** How many stand in a result, are told by one asked, and can be asked ahead in a row. */
    private static final int CLOSEST = 3;
    private static final int DIGIT = 32;
    private static final int MOST_WAYS = 2;

    private static final int MOST_FILES = 12;
    private static final int DATA_PIECES = 4;
    private static final int PIECES = 6;
    private static final int NEEDED_PIECES = 4;
    private static final int PIECE_SETS = 1 << PIECES;
    private static final int POLYNOMIAL = 285;

    private static final int TREE_ROWS = 3;
    private static final int LOWEST_ROW = 1 << TREE_ROWS;

    private static final int LAST_DAY = 500;
    private static final int DAILY_PAY = 3;
    private static final int STAKE = 10;
    private static final int MOST_MISSES = 3;

    private static final int NAME_NUMBERS = 1000;

    private final Peers peers;
    private final Search search;
    private final Row nearest;
    private final StoredFile[] files;
    private final Contracts contracts;
    private final Names names;
    private final Message message;
    private final Ledger ledger;
    private int fileCount;
    private int day;

    public PeerStores() {
        Peers everyone = new Peers();
        Search finder = new Search(everyone);
        Ledger debts = new Ledger();
        peers = everyone;
        search = finder;
        ledger = debts;
        nearest = new Row();
        files = new StoredFile[MOST_FILES];
        contracts = new Contracts(everyone, finder, debts);
        names = new Names();
        message = new Message(everyone);
    }

    // ---- peers

    public int peer(int id, int sort, int by) throws IllegalArgumentException, IndexOutOfBoundsException,
            IllegalStateException {
        needBelow(id, BYTES);
        needBelow(sort, BAND + 1);
        if (by != NONE) {
            needPeer(by);
        }
        if (peers.isFull() || peers.hasId(id)) {
            throw new IllegalStateException("there are 16 peers, or one with this id");
        }
        if (by != NONE) {
            needOnline(by);
        }
        int made = peers.add(id, sort);
        if (by != NONE) {
            peers.hear(by, made);
            peers.hear(made, by);
            search.run(made, id, 1);
        }
        return made;
    }

    public boolean turn(int peer, boolean isOnline) throws IndexOutOfBoundsException {
        needPeer(peer);
        boolean wasOnline = peers.isOnline(peer);
        peers.setOnline(peer, isOnline);
        return wasOnline;
    }

    public int bucket(int peer, int bucket, int place) throws IndexOutOfBoundsException, IllegalArgumentException {
        needPeer(peer);
        if (place < 0) {
            throw new IndexOutOfBoundsException("no such place");
        }
        needBelow(bucket, BUCKETS);
        return place < BUCKET_SIZE ? peers.keptAt(peer, bucket * BUCKET_SIZE + place) : NONE;
    }

    public int lookup(int peer, int key, int ways) throws IndexOutOfBoundsException, IllegalArgumentException,
            IllegalStateException {
        needPeer(peer);
        needBelow(key, BYTES);
        if (ways < 1 || ways > MOST_WAYS) {
            throw new IllegalArgumentException("one way or two");
        }
        needOnline(peer);
        search.run(peer, key, ways);
        return search.result().digits();
    }

    public int asked() {
        return search.askedCount();
    }

    public int closest(int peer, int key) throws IndexOutOfBoundsException, IllegalArgumentException {
        needPeer(peer);
        needBelow(key, BYTES);
        nearest.clear();
        for (int other = 0; other < MOST_PEERS; other++) {
            if (other != peer && peers.answers(other)) {
                nearest.add(other, peers.distance(other, key));
            }
        }
        return nearest.digits();
    }

    // ---- files

    public int file(int owner, int values) throws IndexOutOfBoundsException, IllegalStateException {
        needPeer(owner);
        needOnline(owner);
        if (fileCount < 0 || fileCount >= files.length) {
            throw new IllegalStateException("there are 12 files");
        }
        StoredFile made = new StoredFile(owner, values);
        int number = fileCount;
        files[number] = made;
        fileCount++;
        contracts.storeMissing(made);
        return number;
    }

    public int piece(int file, int piece, int what) throws IndexOutOfBoundsException, IllegalArgumentException {
        StoredFile known = fileAt(file);
        needPiece(piece);
        switch (what) {
            case 0:
                return known.value(piece);
            case 1:
                return known.holder(piece);
            case 2:
                return known.isKept(piece) ? 1 : 0;
            case 3:
                return known.missed(piece);
            default:
                throw new IllegalArgumentException("what is 0 to 3");
        }
    }

    public boolean spoil(int file, int piece) throws IndexOutOfBoundsException, IllegalStateException {
        StoredFile known = fileAt(file);
        needPiece(piece);
        if (!known.isHeld(piece)) {
            throw new IllegalStateException("nobody holds this piece");
        }
        boolean wasKept = known.isKept(piece);
        known.throwAway(piece);
        return wasKept;
    }

    public int root(int file) throws IndexOutOfBoundsException {
        return fileAt(file).tree().top();
    }

    public int proof(int file, int piece, int row) throws IndexOutOfBoundsException, IllegalArgumentException {
        StoredFile known = fileAt(file);
        needPiece(piece);
        needBelow(row, TREE_ROWS);
        return known.tree().neighbour(piece, row);
    }

    public boolean isProved(int file, int piece, int value, int first, int second, int third)
            throws IndexOutOfBoundsException, IllegalArgumentException {
        StoredFile known = fileAt(file);
        needPiece(piece);
        needBelow(value, BYTES);
        return known.tree().top() == Tree.climb(piece, value, first, second, third);
    }

    public int mend(int file, int pieces) throws IndexOutOfBoundsException, IllegalArgumentException {
        StoredFile known = fileAt(file);
        needBelow(pieces, PIECE_SETS);
        if (Integer.bitCount(pieces) < NEEDED_PIECES) {
            throw new IllegalArgumentException("at least four pieces are needed");
        }
        return known.mended(pieces);
    }

    public int fetch(int peer, int file) throws IndexOutOfBoundsException, IllegalStateException {
        needPeer(peer);
        StoredFile known = fileAt(file);
        needOnline(peer);
        return contracts.give(known, peer);
    }

    public int pass() throws IllegalStateException {
        if (day >= LAST_DAY) {
            throw new IllegalStateException("there is no day behind the day 500");
        }
        day++;
        for (int number = 0; number < files.length; number++) {
            StoredFile known = files[number];
            if (known != null) {
                contracts.challenge(known);
            }
        }
        for (int number = 0; number < files.length; number++) {
            StoredFile known = files[number];
            if (known != null && contracts.isToRepair(known)) {
                contracts.storeMissing(known);
            }
        }
        return day;
    }

    // ---- names, messages

    public int tell(int peer, int key, int number, int value) throws IndexOutOfBoundsException,
            IllegalArgumentException, IllegalStateException {
        needPeer(peer);
        needBelow(key, BYTES);
        needBelow(number, NAME_NUMBERS);
        needBelow(value, NAME_NUMBERS);
        needOnline(peer);
        if (!names.mayTell(peer, key)) {
            throw new IllegalStateException("the name is another one's");
        }
        names.claim(peer, key);
        search.run(peer, key, MOST_WAYS);
        int keepers = 0;
        for (int place = 0; place < CLOSEST; place++) {
            int other = search.result().at(place);
            if (peers.isHonest(other) && names.keep(other, key, number, value)) {
                keepers++;
            }
        }
        return keepers;
    }

    public int name(int peer, int key) throws IndexOutOfBoundsException, IllegalArgumentException,
            IllegalStateException {
        needPeer(peer);
        needBelow(key, BYTES);
        needOnline(peer);
        search.run(peer, key, MOST_WAYS);
        int best = NONE;
        for (int place = 0; place < CLOSEST; place++) {
            int other = search.result().at(place);
            int entry = peers.isHonest(other) ? names.keptBy(other, key) : NONE;
            if (Names.isNewer(entry, best)) {
                best = entry;
            }
        }
        return best;
    }

    public int spread(int peer) throws IndexOutOfBoundsException, IllegalStateException {
        needPeer(peer);
        needOnline(peer);
        return message.run(peer);
    }

    public int rounds() {
        return message.roundCount();
    }

    // ---- the ledger

    public int owes(int peer, int other) throws IndexOutOfBoundsException {
        needPeer(peer);
        needPeer(other);
        return ledger.debt(peer, other);
    }

    public int net() {
        return ledger.lessenRings();
    }

    public int worth(int peer) throws IndexOutOfBoundsException {
        needPeer(peer);
        return ledger.balance(peer);
    }

    // ---- what a call needs

    private static void needBelow(int number, int bound) {
        if (number < 0 || number >= bound) {
            throw new IllegalArgumentException("out of range");
        }
    }

    private void needPeer(int peer) {
        if (!peers.has(peer)) {
            throw new IndexOutOfBoundsException("no such peer");
        }
    }

    private void needOnline(int peer) {
        if (!peers.isOnline(peer)) {
            throw new IllegalStateException("the peer is not online");
        }
    }

    private static void needPiece(int piece) {
        if (piece < 0 || piece >= PIECES) {
            throw new IndexOutOfBoundsException("no such piece");
        }
    }

    private StoredFile fileAt(int file) {
        StoredFile found = file >= 0 && file < files.length ? files[file] : null;
        if (found == null) {
            throw new IndexOutOfBoundsException("no such file");
        }
        return found;
    }

    /** Everyone by number, with the buckets that each one keeps. */
    private static final class Peers {
        private final int[] ids = new int[MOST_PEERS];
        private final int[] sorts = new int[MOST_PEERS];
        private final boolean[] online = new boolean[MOST_PEERS];
        /** By peer, one bucket behind the other, the oldest of each first. */
        private final int[][] kept = new int[MOST_PEERS][BUCKETS * BUCKET_SIZE];
        private int count;

        boolean has(int peer) {
            return peer >= 0 && peer < count && peer < MOST_PEERS;
        }

        boolean isFull() {
            return count >= MOST_PEERS;
        }

        boolean hasId(int id) {
            for (int peer = 0; peer < count && peer < MOST_PEERS; peer++) {
                if (ids[peer] == id) {
                    return true;
                }
            }
            return false;
        }

        int add(int id, int sort) {
            int made = count;
            if (made < 0 || made >= MOST_PEERS) {
                return NONE;
            }
            count++;
            ids[made] = id;
            sorts[made] = sort;
            online[made] = true;
            int[] row = kept[made];
            for (int index = 0; index < row.length; index++) {
                row[index] = NONE;
            }
            return made;
        }

        boolean isOnline(int peer) {
            return has(peer) && online[peer];
        }

        void setOnline(int peer, boolean isOnline) {
            if (has(peer)) {
                online[peer] = isOnline;
            }
        }

        boolean isHonest(int peer) {
            return has(peer) && sorts[peer] == HONEST;
        }

        boolean answers(int peer) {
            return has(peer) && online[peer] && sorts[peer] != SILENT;
        }

        /** The distance from a key; above all distances if there is no such peer. */
        int distance(int peer, int key) {
            return peer >= 0 && peer < count && peer < MOST_PEERS ? ids[peer] ^ key : BYTES;
        }

        /** One that a peer keeps, all its buckets being counted through. */
        int keptAt(int peer, int index) {
            return has(peer) && index >= 0 && index < kept[peer].length ? kept[peer][index] : NONE;
        }

        /** Puts into the row whom a peer speaks of: all that it keeps, or of them the band alone. */
        void gather(int peer, int key, boolean isBandOnly, Row row) {
            row.clear();
            if (!has(peer)) {
                return;
            }
            for (int other : kept[peer]) {
                if (has(other) && (!isBandOnly || sorts[other] == BAND)) {
                    row.add(other, ids[other] ^ key);
                }
            }
        }

        boolean isOfBand(int peer) {
            return has(peer) && sorts[peer] == BAND;
        }

        void hear(int peer, int other) {
            if (!has(peer) || !has(other) || peer == other) {
                return;
            }
            int[] row = kept[peer];
            int older = BUCKET_SIZE * highestBit(ids[peer] ^ ids[other]);
            int newer = older + 1;
            if (older < 0 || newer >= row.length) {
                return;
            }
            if (row[older] == NONE) {
                row[older] = other;
            } else if (row[newer] == NONE) {
                row[newer] = row[older] == other ? NONE : other;
            } else if (row[newer] != other) {
                int oldest = row[older];
                // The heard one takes the end only if it was kept already, or the oldest is away.
                boolean isTaken = oldest == other || !(has(oldest) && online[oldest]);
                row[older] = row[newer];
                row[newer] = isTaken ? other : oldest;
            }
        }

        private static int highestBit(int distance) {
            int bit = BUCKETS - 1;
            while (bit > 0 && distance >> bit == 0) {
                bit--;
            }
            return bit;
        }
    }

    /** Peers, each once, those of less distance first. */
    private static final class Row {
        private final int[] members = new int[MOST_PEERS];
        private final int[] distances = new int[MOST_PEERS];
        private int size;

        void clear() {
            size = 0;
        }

        /** Ids are unlike, so one of the same distance is the same peer. */
        void add(int peer, int distance) {
            int place = 0;
            while (place < size && place < MOST_PEERS && distances[place] < distance) {
                place++;
            }
            boolean isIn = place < size && place < MOST_PEERS && distances[place] == distance;
            if (isIn || size >= MOST_PEERS) {
                return;
            }
            for (int to = size; to > place; to--) {
                members[to] = members[to - 1];
                distances[to] = distances[to - 1];
            }
            members[place] = peer;
            distances[place] = distance;
            size++;
        }

        int at(int place) {
            return place >= 0 && place < size && place < MOST_PEERS ? members[place] : NONE;
        }

        int digits() {
            int sum = 0;
            for (int place = CLOSEST - 1; place >= 0; place--) {
                sum = sum * DIGIT + at(place) + 1;
            }
            return sum;
        }
    }

    /** Lookups; what the latest one found and asked stands until the next one runs. */
    private static final class Search {
        private final Peers peers;
        private final Row firstWay = new Row();
        private final Row secondWay = new Row();
        private final Row answered = new Row();
        private final Row spokenOf = new Row();
        private final boolean[] wasAsked = new boolean[MOST_PEERS];
        private int askedCount;

        Search(Peers peers) {
            this.peers = peers;
        }

        int askedCount() {
            return askedCount;
        }

        /** All that answered; the closest three are the result. */
        Row result() {
            return answered;
        }

        void run(int asker, int key, int ways) {
            begin(asker, key, ways);
            boolean isOver = false;
            for (int round = 0; round <= MOST_PEERS && !isOver; round++) {
                int before = askedCount;
                askAlong(firstWay, asker, key);
                askAlong(secondWay, asker, key);
                isOver = askedCount == before;
            }
        }

        private void begin(int asker, int key, int ways) {
            firstWay.clear();
            secondWay.clear();
            answered.clear();
            askedCount = 0;
            for (int peer = 0; peer < MOST_PEERS; peer++) {
                wasAsked[peer] = false;
            }
            peers.gather(asker, key, false, spokenOf);
            for (int place = 0; place < MOST_PEERS; place++) {
                int peer = spokenOf.at(place);
                boolean isSecond = ways == MOST_WAYS && place % MOST_WAYS == 1;
                include(isSecond ? secondWay : firstWay, peer, key);
            }
        }

        private void askAlong(Row way, int asker, int key) {
            int one = NONE;
            int another = NONE;
            for (int place = 0; place < CLOSEST; place++) {
                int peer = way.at(place);
                boolean isOpen = peers.has(peer) && !wasAsked[peer];
                if (isOpen && one == NONE) {
                    one = peer;
                } else if (isOpen && another == NONE) {
                    another = peer;
                }
            }
            ask(one, way, asker, key);
            ask(another, way, asker, key);
        }

        private void ask(int peer, Row way, int asker, int key) {
            if (!peers.has(peer)) {
                return;
            }
            wasAsked[peer] = true;
            askedCount++;
            if (!peers.answers(peer)) {
                return;
            }
            peers.hear(peer, asker);
            peers.hear(asker, peer);
            include(answered, peer, key);
            peers.gather(peer, key, peers.isOfBand(peer), spokenOf);
            for (int place = 0; place < CLOSEST; place++) {
                int told = spokenOf.at(place);
                if (told != asker) {
                    include(way, told, key);
                }
            }
        }

        private void include(Row row, int peer, int key) {
            if (peer != NONE) {
                row.add(peer, peers.distance(peer, key));
            }
        }
    }

    /** Bytes as polynomials: the two pieces that are added, and the four found again from some. */
    private static final class Code {
        static int times(int one, int other) {
            int product = 0;
            int shifted = one;
            for (int bit = 0; bit < 8; bit++) {
                if (((other >> bit) & 1) == 1) {
                    product ^= shifted;
                }
                shifted <<= 1;
                if (shifted >= BYTES) {
                    shifted ^= POLYNOMIAL;
                }
            }
            return product;
        }

        /** All but 0 to the power of 255 is 1, so the power of 254 is the inverse. */
        static int inverse(int number) {
            int square = number;
            int power = 1;
            for (int bit = 1; bit < 8; bit++) {
                square = times(square, square);
                power = times(power, square);
            }
            return power;
        }

        /** What a data piece adds to the piece p1. */
        static int weighted(int piece, int value) {
            return times(1 << piece, value);
        }

        static boolean isIn(int set, int piece) {
            return ((set >> piece) & 1) == 1;
        }

        static int[] pieces(int bytes) {
            int[] values = new int[PIECES];
            int sum = 0;
            int weightedSum = 0;
            for (int piece = 0; piece < DATA_PIECES; piece++) {
                int value = (bytes >> (8 * piece)) & (BYTES - 1);
                values[piece] = value;
                sum ^= value;
                weightedSum ^= weighted(piece, value);
            }
            values[DATA_PIECES] = sum;
            values[DATA_PIECES + 1] = weightedSum;
            return values;
        }

        /** Four bytes, from the pieces of the set alone, of which there are at least four. */
        static int solve(int[] values, int set) {
            int bytes = 0;
            int sum = isIn(set, DATA_PIECES) && DATA_PIECES < values.length ? values[DATA_PIECES] : 0;
            int weightedSum = isIn(set, DATA_PIECES + 1) && DATA_PIECES + 1 < values.length
                    ? values[DATA_PIECES + 1] : 0;
            int lost = NONE;
            int alsoLost = NONE;
            for (int piece = 0; piece < DATA_PIECES && piece < values.length; piece++) {
                if (isIn(set, piece)) {
                    bytes |= values[piece] << (8 * piece);
                    sum ^= values[piece];
                    weightedSum ^= weighted(piece, values[piece]);
                } else if (lost == NONE) {
                    lost = piece;
                } else {
                    alsoLost = piece;
                }
            }
            if (lost == NONE) {
                return bytes;
            }
            if (alsoLost != NONE) {
                return bytes | solveTwo(lost, alsoLost, sum, weightedSum);
            }
            int value = isIn(set, DATA_PIECES) ? sum : times(weightedSum, inverse(1 << lost));
            return bytes | (value << (8 * lost));
        }

        /** Two lost bytes in their places, from their sum and their weighted sum. */
        private static int solveTwo(int lost, int alsoLost, int sum, int weightedSum) {
            int rest = weightedSum ^ weighted(lost, sum);
            int second = times(rest, inverse((1 << lost) ^ (1 << alsoLost)));
            int first = sum ^ second;
            return (first << (8 * lost)) | (second << (8 * alsoLost));
        }
    }

    /** A tree of hashes: its top is node 1, and below node n stand 2n and 2n + 1. */
    private static final class Tree {
        private final int[] nodes = new int[2 * LOWEST_ROW];

        Tree(int[] values) {
            for (int piece = 0; piece < PIECES && piece < values.length; piece++) {
                nodes[LOWEST_ROW + piece] = hash(values[piece], piece);
            }
            for (int node = LOWEST_ROW - 1; node > 0; node--) {
                nodes[node] = hash(nodes[2 * node], nodes[2 * node + 1]);
            }
        }

        static int hash(int x, int y) {
            int mixed = (x * 31 + y) * 1103515245 + 12345;
            return mixed ^ (mixed >>> 16);
        }

        static int climb(int piece, int value, int first, int second, int third) {
            int node = LOWEST_ROW + piece;
            int low = above(node, hash(value, piece), first);
            int middle = above(node >> 1, low, second);
            return above(node >> 2, middle, third);
        }

        /** Odd nodes stand to the right of their neighbours. */
        private static int above(int node, int own, int neighbour) {
            return node % 2 == 0 ? hash(own, neighbour) : hash(neighbour, own);
        }

        int top() {
            return nodes[1];
        }

        int leaf(int piece) {
            return piece >= 0 && piece < PIECES ? nodes[LOWEST_ROW + piece] : 0;
        }

        int neighbour(int piece, int row) {
            if (piece < 0 || piece >= PIECES || row < 0 || row >= TREE_ROWS) {
                return 0;
            }
            return nodes[((LOWEST_ROW + piece) >> row) ^ 1];
        }
    }

    /** A file: what its pieces are, and who holds them. */
    private static final class StoredFile {
        private final int owner;
        private final int[] values;
        private final Tree tree;
        private final int[] holders = new int[PIECES];
        private final boolean[] kept = new boolean[PIECES];
        private final int[] misses = new int[PIECES];

        StoredFile(int owner, int bytes) {
            int[] all = Code.pieces(bytes);
            this.owner = owner;
            values = all;
            tree = new Tree(all);
            for (int piece = 0; piece < PIECES; piece++) {
                holders[piece] = NONE;
            }
        }

        int owner() {
            return owner;
        }

        Tree tree() {
            return tree;
        }

        int value(int piece) {
            return piece >= 0 && piece < values.length ? values[piece] : NONE;
        }

        int key(int piece) {
            return tree.leaf(piece) & (BYTES - 1);
        }

        int mended(int set) {
            return Code.solve(values, set);
        }

        int holder(int piece) {
            return isPiece(piece) ? holders[piece] : NONE;
        }

        boolean isHeld(int piece) {
            return isPiece(piece) && holders[piece] != NONE;
        }

        boolean isHeldBy(int peer) {
            for (int holder : holders) {
                if (holder == peer) {
                    return true;
                }
            }
            return false;
        }

        boolean isKept(int piece) {
            return isPiece(piece) && kept[piece];
        }

        int missed(int piece) {
            return isPiece(piece) ? misses[piece] : 0;
        }

        void setMissed(int piece, int times) {
            if (isPiece(piece)) {
                misses[piece] = times;
            }
        }

        void throwAway(int piece) {
            if (isPiece(piece)) {
                kept[piece] = false;
            }
        }

        /** Gives a piece to a holder, or to nobody. */
        void hand(int piece, int holder, boolean isKept) {
            if (isPiece(piece)) {
                holders[piece] = holder;
                kept[piece] = isKept;
                misses[piece] = 0;
            }
        }

        private static boolean isPiece(int piece) {
            return piece >= 0 && piece < PIECES;
        }
    }

    /** What owners and holders do: storing, giving, daily challenges, and when to repair. */
    private static final class Contracts {
        private final Peers peers;
        private final Search search;
        private final Ledger ledger;

        Contracts(Peers peers, Search search, Ledger ledger) {
            this.peers = peers;
            this.search = search;
            this.ledger = ledger;
        }

        void storeMissing(StoredFile file) {
            for (int piece = 0; piece < PIECES; piece++) {
                if (!file.isHeld(piece)) {
                    search.run(file.owner(), file.key(piece), MOST_WAYS);
                    int holder = firstFree(file);
                    file.hand(piece, holder, peers.isHonest(holder));
                }
            }
        }

        private int firstFree(StoredFile file) {
            for (int place = 0; place < CLOSEST; place++) {
                int peer = search.result().at(place);
                if (peer != NONE && peer != file.owner() && !file.isHeldBy(peer)) {
                    return peer;
                }
            }
            return NONE;
        }

        private boolean isAtHand(StoredFile file, int piece) {
            return file.isKept(piece) && peers.isOnline(file.holder(piece));
        }

        void challenge(StoredFile file) {
            if (!peers.isOnline(file.owner())) {
                return;
            }
            for (int piece = 0; piece < PIECES; piece++) {
                if (file.isHeld(piece)) {
                    challengePiece(file, piece);
                }
            }
        }

        private void challengePiece(StoredFile file, int piece) {
            int holder = file.holder(piece);
            if (isAtHand(file, piece)) {
                ledger.owe(file.owner(), holder, DAILY_PAY);
                file.setMissed(piece, 0);
            } else if (file.missed(piece) + 1 < MOST_MISSES) {
                file.setMissed(piece, file.missed(piece) + 1);
            } else {
                ledger.owe(holder, file.owner(), STAKE);
                file.hand(piece, NONE, false);
            }
        }

        boolean isToRepair(StoredFile file) {
            int held = 0;
            int atHand = 0;
            for (int piece = 0; piece < PIECES; piece++) {
                held += file.isHeld(piece) ? 1 : 0;
                atHand += isAtHand(file, piece) ? 1 : 0;
            }
            return peers.isOnline(file.owner()) && held <= NEEDED_PIECES && atHand >= NEEDED_PIECES;
        }

        /** How many pieces are given to one who fetches: all that are needed, or none. */
        int give(StoredFile file, int peer) {
            int atHand = 0;
            for (int piece = 0; piece < PIECES; piece++) {
                atHand += isAtHand(file, piece) ? 1 : 0;
            }
            if (peer == file.owner() || atHand < NEEDED_PIECES) {
                return 0;
            }
            int given = 0;
            for (int piece = 0; piece < PIECES && given < NEEDED_PIECES; piece++) {
                if (isAtHand(file, piece)) {
                    ledger.owe(peer, file.holder(piece), 1);
                    given++;
                }
            }
            return given;
        }
    }

    /** Who told a name first, and what each peer keeps of it: 1000 times its number, and its value. */
    private static final class Names {
        private final int[] tellers = new int[BYTES];
        private final int[][] kept = new int[MOST_PEERS][BYTES];

        Names() {
            for (int key = 0; key < BYTES; key++) {
                tellers[key] = NONE;
                for (int peer = 0; peer < MOST_PEERS; peer++) {
                    kept[peer][key] = NONE;
                }
            }
        }

        boolean mayTell(int peer, int key) {
            return isKey(key) && (tellers[key] == NONE || tellers[key] == peer);
        }

        void claim(int peer, int key) {
            if (mayTell(peer, key)) {
                tellers[key] = peer;
            }
        }

        /** Whether the peer keeps it so, having kept none or an older one. */
        boolean keep(int peer, int key, int number, int value) {
            int entry = NAME_NUMBERS * number + value;
            if (!isPlace(peer, key) || !isNewer(entry, kept[peer][key])) {
                return false;
            }
            kept[peer][key] = entry;
            return true;
        }

        int keptBy(int peer, int key) {
            return isPlace(peer, key) ? kept[peer][key] : NONE;
        }

        static boolean isNewer(int entry, int other) {
            return entry != NONE && (other == NONE || entry / NAME_NUMBERS > other / NAME_NUMBERS);
        }

        private static boolean isKey(int key) {
            return key >= 0 && key < BYTES;
        }

        private static boolean isPlace(int peer, int key) {
            return peer >= 0 && peer < MOST_PEERS && isKey(key);
        }
    }

    /** A message that is told on in rounds. */
    private static final class Message {
        private final Peers peers;
        /** By peer the round in which it got the latest message; 0 for its teller. */
        private final int[] gotIn = new int[MOST_PEERS];
        private int roundCount;

        Message(Peers peers) {
            this.peers = peers;
        }

        int roundCount() {
            return roundCount;
        }

        /** How many others got it. */
        int run(int teller) {
            for (int peer = 0; peer < MOST_PEERS; peer++) {
                gotIn[peer] = peer == teller ? 0 : NONE;
            }
            roundCount = 0;
            int all = 0;
            boolean isOver = false;
            for (int round = 1; round <= MOST_PEERS && !isOver; round++) {
                int some = tellInRound(round);
                all += some;
                isOver = some == 0;
                roundCount += isOver ? 0 : 1;
            }
            return all;
        }

        private int tellInRound(int round) {
            int some = 0;
            for (int peer = 0; peer < MOST_PEERS; peer++) {
                boolean isTelling = round == 1 || peers.isHonest(peer);
                if (isTelling && gotIn[peer] == round - 1) {
                    some += tellAll(peer, round);
                }
            }
            return some;
        }

        private int tellAll(int teller, int round) {
            int some = 0;
            for (int index = 0; index < BUCKETS * BUCKET_SIZE; index++) {
                int other = peers.keptAt(teller, index);
                if (peers.answers(other) && gotIn[other] == NONE) {
                    gotIn[other] = round;
                    some++;
                }
            }
            return some;
        }
    }

    /** What peers owe one another, by debtor and creditor. */
    private static final class Ledger {
        private final int[][] debts = new int[MOST_PEERS][MOST_PEERS];

        private static boolean isPlace(int peer, int other) {
            return peer >= 0 && peer < MOST_PEERS && other >= 0 && other < MOST_PEERS;
        }

        int debt(int peer, int other) {
            return isPlace(peer, other) ? debts[peer][other] : 0;
        }

        void owe(int peer, int other, int more) {
            if (isPlace(peer, other) && peer != other) {
                debts[peer][other] += more;
            }
        }

        int balance(int peer) {
            int sum = 0;
            for (int other = 0; other < MOST_PEERS; other++) {
                sum += debt(other, peer) - debt(peer, other);
            }
            return sum;
        }

        /** Debts only become less, so no ring comes back behind the one that is looked at: each is seen once. */
        int lessenRings() {
            int less = 0;
            for (int first = 0; first < MOST_PEERS; first++) {
                for (int second = first + 1; second < MOST_PEERS; second++) {
                    less += lessenTwo(first, second);
                }
            }
            for (int first = 0; first < MOST_PEERS; first++) {
                for (int second = first + 1; second < MOST_PEERS; second++) {
                    less += lessenThrees(first, second);
                }
            }
            return less;
        }

        private int lessenTwo(int first, int second) {
            int least = Math.min(debt(first, second), debt(second, first));
            owe(first, second, -least);
            owe(second, first, -least);
            return 2 * least;
        }

        private int lessenThrees(int first, int second) {
            int less = 0;
            for (int third = first + 1; third < MOST_PEERS; third++) {
                if (third != second) {
                    int least = Math.min(debt(first, second), Math.min(debt(second, third), debt(third, first)));
                    owe(first, second, -least);
                    owe(second, third, -least);
                    owe(third, first, -least);
                    less += 3 * least;
                }
            }
            return less;
        }
    }
}
