/** A ledger of accounts under one root of 32 bytes, with proofs against that root. */
public final class ProvenLedger {
    public static final int BAD = -1;
    public static final int WRONG_NONCE = -2;
    public static final int POOR = -3;
    public static final int FULL = -4;

    private static final int LAST_ACCOUNT = 65535;
    private static final int MOST_ACCOUNTS = 12;
    private static final long MOST_AMOUNT = 1000000000000L;

    private static final int DIGITS = 4;
    private static final int BASE = 16;
    private static final int MARK = 2;

    private static final int ROW = 128;
    private static final int LIST = 192;
    private static final int SHORT = 55;
    private static final int HASH_BYTES = 32;
    private static final int HASH_ROW = ROW + HASH_BYTES;
    private static final int LONGEST_HEAD = 3;

    private static final int LEAF = 0;
    private static final int STEM = 1;
    private static final int FORK = 2;
    private static final int NOTHING = 3;

    // A fork has at most all accounts below it, each in a node referred to by a hash, and five empty rows.
    private static final int LONGEST_CODE = LONGEST_HEAD + MOST_ACCOUNTS * (1 + HASH_BYTES) + 5;
    // Every fork parts the accounts once more, and below every stem stands a fork.
    private static final int MOST_NODES = MOST_ACCOUNTS + 2 * (MOST_ACCOUNTS - 1);
    // A node takes fewer than 30 bytes for itself and at most 33 in the node above it.
    private static final int CODE_ROOM = 64 * MOST_NODES;
    // The nodes on the way of an account stand at different depths.
    private static final int MOST_PARTS = DIGITS + 1;
    // Every step of a check goes further on in a part, or on to the next one.
    private static final int MOST_STEPS = MOST_PARTS * LONGEST_CODE;

    private final Book book;
    private final Hasher hasher;
    private final Tree tree;
    private final Proof proof;
    private final Way way;
    private int feeAccount;
    private int latestCheck;

    public ProvenLedger() {
        book = new Book();
        hasher = new Hasher();
        tree = new Tree(book, hasher);
        proof = new Proof();
        way = new Way(proof, hasher);
        feeAccount = 0;
        latestCheck = BAD;
    }

    public boolean collector(int account) {
        if (!isAccount(account)) {
            return false;
        }
        feeAccount = account;
        return true;
    }

    public int grant(int account, long amount) {
        if (!isAccount(account) || amount < 1 || amount > MOST_AMOUNT) {
            return BAD;
        }
        if (!book.has(account) && book.count() >= MOST_ACCOUNTS) {
            return FULL;
        }
        book.credit(account, amount);
        tree.outdate();
        return book.count();
    }

    public int send(int from, int to, long amount, long fee, int nonce) {
        if (!isAccount(from) || !isAccount(to) || !isSendable(amount) || !isSendable(fee)) {
            return BAD;
        }
        if (nonce != book.nonceOf(from)) {
            return WRONG_NONCE;
        }
        if (amount + fee > book.balanceOf(from)) {
            return POOR;
        }
        if (book.count() + newcomers(from, to, amount, fee) > MOST_ACCOUNTS) {
            return FULL;
        }
        book.put(from, nonce + 1, book.balanceOf(from) - amount - fee);
        book.credit(to, amount);
        book.credit(feeAccount, fee);
        tree.outdate();
        return book.count();
    }

    public boolean close(int account) {
        if (!isAccount(account) || !book.has(account)) {
            return false;
        }
        book.put(account, 0, 0);
        tree.outdate();
        return true;
    }

    public int nonce(int account) {
        return book.nonceOf(account);
    }

    public long balance(int account) {
        return book.balanceOf(account);
    }

    public int accounts() {
        return book.count();
    }

    public long root(int k) {
        if (k < 0 || k >= HASH_BYTES / 8) {
            return 0;
        }
        tree.refresh();
        long word = 0;
        for (int i = 8 * k; i < 8 * k + 8; i++) {
            word = word << 8 | tree.rootByte(i);
        }
        return word;
    }

    public int nodes(int kind) {
        if (kind != LEAF && kind != STEM && kind != FORK) {
            return BAD;
        }
        tree.refresh();
        return tree.countOf(kind);
    }

    public int size() {
        tree.refresh();
        return tree.topLength();
    }

    public int prove(int account) {
        if (!isAccount(account)) {
            return BAD;
        }
        tree.refresh();
        tree.writeProof(account, proof);
        return proof.count();
    }

    public int parts() {
        return proof.count();
    }

    public int length(int p) {
        return proof.hasPart(p) ? proof.lengthOf(p) : BAD;
    }

    public int part(int p, int i) {
        return proof.hasByte(p, i) ? proof.byteAt(p, i) : BAD;
    }

    public boolean alter(int p, int i, int b) {
        if (!proof.hasByte(p, i) || b < 0 || b > 255) {
            return false;
        }
        boolean another = proof.byteAt(p, i) != b;
        proof.setByte(p, i, b);
        return another;
    }

    public int shorten() {
        if (proof.count() == 0) {
            return BAD;
        }
        proof.dropLast();
        return proof.count();
    }

    // A check that is refused is the latest one all the same, so that nothing is proven behind it.
    public int check(int account) {
        tree.refresh();
        latestCheck = isAccount(account) ? way.follow(account, tree.rootRow()) : BAD;
        return latestCheck;
    }

    public long proven(int what) {
        if (latestCheck != 1) {
            return 0;
        }
        if (what == 0) {
            return way.foundNonce();
        }
        return what == 1 ? way.foundBalance() : 0;
    }

    private static boolean isAccount(int account) {
        return account >= 0 && account <= LAST_ACCOUNT;
    }

    private static boolean isSendable(long amount) {
        return amount >= 0 && amount <= MOST_AMOUNT;
    }

    private static int digit(int account, int depth) {
        return (account >> 4 * (DIGITS - 1 - depth)) & (BASE - 1);
    }

    /** How many accounts a transaction makes that are not there yet. */
    private int newcomers(int from, int to, long amount, long fee) {
        boolean fromComes = !book.has(from);
        boolean toComes = amount > 0 && to != from && !book.has(to);
        boolean feeComes = fee > 0 && feeAccount != from && !book.has(feeAccount) && !(toComes && feeAccount == to);
        return (fromComes ? 1 : 0) + (toComes ? 1 : 0) + (feeComes ? 1 : 0);
    }

    /**
     * The accounts that are there, in the order of their numbers: those that agree in their first digits
     * then stand side by side, which the tree relies on.
     */
    static final class Book {
        private final int[] numbers = new int[MOST_ACCOUNTS];
        private final int[] nonces = new int[MOST_ACCOUNTS];
        private final long[] balances = new long[MOST_ACCOUNTS];
        private int count;

        int count() {
            return count;
        }

        boolean has(int account) {
            return find(account) >= 0;
        }

        int nonceOf(int account) {
            int at = find(account);
            return at < 0 ? 0 : nonces[at];
        }

        long balanceOf(int account) {
            int at = find(account);
            return at < 0 ? 0 : balances[at];
        }

        int numberAt(int at) {
            return at >= 0 && at < count ? numbers[at] : 0;
        }

        void credit(int account, long amount) {
            put(account, nonceOf(account), balanceOf(account) + amount);
        }

        void put(int account, int nonce, long balance) {
            boolean there = nonce != 0 || balance != 0;
            int at = find(account);
            if (at >= 0 && !there) {
                remove(at);
                return;
            }
            if (at < 0 && there) {
                at = insert(account);
            }
            if (at >= 0) {
                nonces[at] = nonce;
                balances[at] = balance;
            }
        }

        private int find(int account) {
            for (int at = 0; at < count; at++) {
                if (numbers[at] == account) {
                    return at;
                }
            }
            return -1;
        }

        private int insert(int account) {
            if (count >= MOST_ACCOUNTS) {
                return -1;
            }
            int at = count;
            while (at > 0 && numbers[at - 1] > account) {
                move(at - 1, at);
                at--;
            }
            numbers[at] = account;
            count++;
            return at;
        }

        private void remove(int gone) {
            for (int at = gone; at < count - 1; at++) {
                move(at + 1, at);
            }
            count--;
        }

        private void move(int from, int to) {
            numbers[to] = numbers[from];
            nonces[to] = nonces[from];
            balances[to] = balances[from];
        }
    }

    /** The document's hash. W(x, y) is word x + 5 * y. */
    static final class Hasher {
        private static final int BLOCK = 136;
        // Where word x + 5 * y goes in the document's B: y + 5 * ((2 * x + 3 * y) % 5).
        private static final int[] TARGETS = {
            0, 10, 20, 5, 15,
            16, 1, 11, 21, 6,
            7, 17, 2, 12, 22,
            23, 8, 18, 3, 13,
            14, 24, 9, 19, 4,
        };
        // The document's DISTANCE of word x + 5 * y.
        private static final int[] DISTANCES = {
            0, 1, 62, 28, 27,
            36, 44, 6, 55, 20,
            3, 10, 43, 25, 39,
            41, 45, 15, 21, 8,
            18, 2, 61, 56, 14,
        };
        // The document's K(r).
        private static final long[] ROUND_WORDS = {
            0x0000000000000001L, 0x0000000000008082L, 0x800000000000808AL, 0x8000000080008000L,
            0x000000000000808BL, 0x0000000080000001L, 0x8000000080008081L, 0x8000000000008009L,
            0x000000000000008AL, 0x0000000000000088L, 0x0000000080008009L, 0x000000008000000AL,
            0x000000008000808BL, 0x800000000000008BL, 0x8000000000008089L, 0x8000000000008003L,
            0x8000000000008002L, 0x8000000000000080L, 0x000000000000800AL, 0x800000008000000AL,
            0x8000000080008081L, 0x8000000000008080L, 0x0000000080000001L, 0x8000000080008008L,
        };

        private final long[] words = new long[25];
        private final long[] turned = new long[25];
        private final long[] columns = new long[5];

        /** Hashes bytes of a row; hashByte() tells the hash until the next call. */
        void hash(int[] row, int begin, int length) {
            for (int i = 0; i < words.length; i++) {
                words[i] = 0;
            }
            int padded = (length / BLOCK + 1) * BLOCK;
            for (int i = 0; i < padded; i++) {
                int b = i < length && begin + i < row.length ? row[begin + i] : 0;
                if (i == length) {
                    b = 1;
                }
                if (i == padded - 1) {
                    b += 128;
                }
                int inBlock = i % BLOCK;
                words[inBlock / 8] ^= (long) b << 8 * (inBlock % 8);
                if (inBlock == BLOCK - 1) {
                    doRounds();
                }
            }
        }

        int hashByte(int i) {
            return i >= 0 && i < HASH_BYTES ? (int) (words[i / 8] >>> 8 * (i % 8)) & 255 : 0;
        }

        /** Whether the hash stands in a row at a place; a byte that the row has not counts as 0. */
        boolean standsIn(int[] row, int length, int place) {
            for (int i = 0; i < HASH_BYTES; i++) {
                int at = place + i;
                int b = at >= 0 && at < length && at < row.length ? row[at] : 0;
                if (hashByte(i) != b) {
                    return false;
                }
            }
            return true;
        }

        private void doRounds() {
            for (int r = 0; r < ROUND_WORDS.length; r++) {
                mixColumns();
                turnWords();
                mixRows();
                words[0] ^= ROUND_WORDS[r];
            }
        }

        private void mixColumns() {
            for (int x = 0; x < 5; x++) {
                columns[x] = words[x] ^ words[x + 5] ^ words[x + 10] ^ words[x + 15] ^ words[x + 20];
            }
            for (int x = 0; x < 5; x++) {
                long right = columns[(x + 1) % 5];
                long mixed = columns[(x + 4) % 5] ^ (right << 1 | right >>> 63);
                for (int at = x; at < 25; at += 5) {
                    words[at] ^= mixed;
                }
            }
        }

        private void turnWords() {
            for (int at = 0; at < 25; at++) {
                long word = words[at];
                int distance = DISTANCES[at];
                // A shift by 64 is one by 0 in Java, so the distance 0 leaves the word as it is.
                turned[TARGETS[at]] = word << distance | word >>> 64 - distance;
            }
        }

        private void mixRows() {
            for (int y = 0; y < 25; y += 5) {
                long first = turned[y];
                long second = turned[y + 1];
                long third = turned[y + 2];
                long fourth = turned[y + 3];
                long fifth = turned[y + 4];
                words[y] = first ^ (~second & third);
                words[y + 1] = second ^ (~third & fourth);
                words[y + 2] = third ^ (~fourth & fifth);
                words[y + 3] = fourth ^ (~fifth & first);
                words[y + 4] = fifth ^ (~first & second);
            }
        }
    }

    /**
     * A row into which codes are written. What is inside a row or a list is written first, behind room for
     * the longest head; when the number of its bytes is known, it moves up to the head that it needs.
     */
    static final class Code {
        private final int[] bytes = new int[CODE_ROOM];
        private int used;

        void clear() {
            used = 0;
        }

        int used() {
            return used;
        }

        int[] bytes() {
            return bytes;
        }

        void put(int b) {
            if (used < bytes.length) {
                bytes[used] = b;
                used++;
            }
        }

        void copy(int begin, int length) {
            for (int i = begin; i < begin + length && i >= 0 && i < used; i++) {
                put(bytes[i]);
            }
        }

        /** Begins a row or a list; the answer is for shut(). */
        int open() {
            int mark = used;
            for (int i = 0; i < LONGEST_HEAD; i++) {
                put(0);
            }
            return mark;
        }

        /** Ends what was begun at the mark, as a ROW or a LIST. */
        void shut(int mark, int kind) {
            int body = mark + LONGEST_HEAD;
            int length = used - body;
            if (mark < 0 || length < 0) {
                return;
            }
            int first = length == 0 ? 0 : bytes[body];
            used = mark;
            if (kind == LIST || length != 1 || first >= ROW) {
                putHead(kind, length);
            }
            for (int i = body; i < body + length; i++) {
                put(bytes[i]);
            }
        }

        private void putHead(int kind, int length) {
            if (length <= SHORT) {
                put(kind + length);
            } else if (length < 256) {
                put(kind + SHORT + 1);
                put(length);
            } else {
                put(kind + SHORT + 2);
                put(length >> 8);
                put(length & 255);
            }
        }

        void putNumber(long number) {
            int mark = open();
            boolean begun = false;
            for (int shift = 56; shift >= 0; shift -= 8) {
                int b = (int) (number >>> shift) & 255;
                begun = begun || b != 0;
                if (begun) {
                    put(b);
                }
            }
            shut(mark, ROW);
        }

        /** The account's digits from one depth up to another, packed. */
        void putDigits(int account, int depth, int end, boolean marked) {
            int mark = open();
            int flag = marked ? MARK : 0;
            int next = depth;
            if ((end - depth) % 2 == 0) {
                put(BASE * flag);
            } else {
                put(BASE * (flag + 1) + digit(account, depth));
                next++;
            }
            for (int i = next; i + 1 < end; i += 2) {
                put(BASE * digit(account, i) + digit(account, i + 1));
            }
            shut(mark, ROW);
        }
    }

    /** A node of the tree; a leaf or a stem has the digits of the account from depth up to end. */
    static final class Node {
        private final Node[] below = new Node[BASE];
        private int kind;
        private int account;
        private int depth;
        private int end;
        private int begin;
        private int length;

        void become(int newKind, int newAccount, int newDepth, int newEnd) {
            kind = newKind;
            account = newAccount;
            depth = newDepth;
            end = newEnd;
            for (int i = 0; i < BASE; i++) {
                below[i] = null;
            }
        }

        /** The next node on the way of an account, or null where its way ends. */
        Node next(int wanted) {
            if (kind == FORK) {
                return below[digit(wanted, depth)];
            }
            return kind == STEM && hasDigitsOf(wanted) ? below[0] : null;
        }

        private boolean hasDigitsOf(int wanted) {
            for (int i = depth; i < end; i++) {
                if (digit(wanted, i) != digit(account, i)) {
                    return false;
                }
            }
            return true;
        }
    }

    /**
     * The tree over the accounts of a book. It is dear to make, so it is made when it is asked for and not
     * when an account changes: outdate() goes with every change, refresh() before every question.
     */
    static final class Tree {
        private final Book book;
        private final Hasher hasher;
        private final Code code = new Code();
        private final Node[] pool = new Node[MOST_NODES];
        private final int[] counts = new int[NOTHING + 1];
        private final int[] root = new int[HASH_BYTES];
        private int taken;
        private Node top;
        private boolean old;

        Tree(Book book, Hasher hasher) {
            this.book = book;
            this.hasher = hasher;
            for (int i = 0; i < pool.length; i++) {
                pool[i] = new Node();
            }
            top = pool[0];
            old = true;
        }

        void outdate() {
            old = true;
        }

        void refresh() {
            if (!old) {
                return;
            }
            old = false;
            code.clear();
            taken = 0;
            for (int kind = 0; kind < counts.length; kind++) {
                counts[kind] = 0;
            }
            top = book.count() == 0 ? growNothing() : grow(0, book.count(), 0);
            hasher.hash(code.bytes(), top.begin, top.length);
            for (int i = 0; i < HASH_BYTES; i++) {
                root[i] = hasher.hashByte(i);
            }
        }

        int topLength() {
            return top.length;
        }

        int[] rootRow() {
            return root;
        }

        int rootByte(int i) {
            return i >= 0 && i < HASH_BYTES ? root[i] : 0;
        }

        int countOf(int kind) {
            return kind >= 0 && kind < counts.length ? counts[kind] : 0;
        }

        void writeProof(int account, Proof proof) {
            proof.clear();
            proof.add(code.bytes(), top.begin, top.length);
            Node node = top.next(account);
            for (int depth = 1; depth <= DIGITS && node != null; depth++) {
                if (isHashed(node)) {
                    proof.add(code.bytes(), node.begin, node.length);
                }
                node = node.next(account);
            }
        }

        private static boolean isHashed(Node node) {
            return node.length >= HASH_BYTES;
        }

        /** The node for the accounts from one place of the book up to another, which agree up to the depth. */
        private Node grow(int first, int end, int depth) {
            if (end - first == 1 || depth >= DIGITS) {
                return growLeaf(book.numberAt(first), depth);
            }
            int agreed = agreedDepth(book.numberAt(first), book.numberAt(end - 1), depth);
            return agreed > depth ? growStem(first, end, depth, agreed) : growFork(first, end, depth);
        }

        // The lowest and the highest number agree in just those first digits in which all between them do.
        private static int agreedDepth(int lowest, int highest, int depth) {
            int agreed = depth;
            while (agreed < DIGITS && digit(lowest, agreed) == digit(highest, agreed)) {
                agreed++;
            }
            return agreed;
        }

        private Node growNothing() {
            Node node = take(NOTHING, 0, 0, 0);
            int begin = code.open();
            code.shut(begin, ROW);
            return finish(node, begin);
        }

        private Node growLeaf(int account, int depth) {
            Node node = take(LEAF, account, depth, DIGITS);
            int begin = code.open();
            code.putDigits(account, depth, DIGITS, true);
            int value = code.open();
            int pair = code.open();
            code.putNumber(book.nonceOf(account));
            code.putNumber(book.balanceOf(account));
            code.shut(pair, LIST);
            code.shut(value, ROW);
            code.shut(begin, LIST);
            return finish(node, begin);
        }

        private Node growStem(int first, int end, int depth, int agreed) {
            int account = book.numberAt(first);
            Node node = take(STEM, account, depth, agreed);
            node.below[0] = grow(first, end, agreed);
            int begin = code.open();
            code.putDigits(account, depth, agreed, false);
            putReference(node.below[0]);
            code.shut(begin, LIST);
            return finish(node, begin);
        }

        private Node growFork(int first, int end, int depth) {
            Node node = take(FORK, 0, depth, depth);
            int from = first;
            for (int d = 0; d < BASE; d++) {
                int to = from;
                while (to < end && digit(book.numberAt(to), depth) == d) {
                    to++;
                }
                if (to > from) {
                    node.below[d] = grow(from, to, depth + 1);
                }
                from = to;
            }
            int begin = code.open();
            for (int d = 0; d < BASE; d++) {
                putReference(node.below[d]);
            }
            code.put(ROW);
            code.shut(begin, LIST);
            return finish(node, begin);
        }

        private void putReference(Node node) {
            if (node == null) {
                code.put(ROW);
            } else if (isHashed(node)) {
                hasher.hash(code.bytes(), node.begin, node.length);
                code.put(HASH_ROW);
                for (int i = 0; i < HASH_BYTES; i++) {
                    code.put(hasher.hashByte(i));
                }
            } else {
                code.copy(node.begin, node.length);
            }
        }

        private Node take(int kind, int account, int depth, int end) {
            Node node = pool[taken];
            if (taken < pool.length - 1) {
                taken++;
            }
            node.become(kind, account, depth, end);
            counts[kind]++;
            return node;
        }

        private Node finish(Node node, int begin) {
            node.begin = begin;
            node.length = code.used() - begin;
            return node;
        }
    }

    /** The parts of a proof, in rows of their own, so that it stays whatever becomes of the ledger. */
    static final class Proof {
        private final int[][] rows = new int[MOST_PARTS][LONGEST_CODE];
        private final int[] lengths = new int[MOST_PARTS];
        private int count;

        int count() {
            return count;
        }

        void clear() {
            count = 0;
        }

        void add(int[] bytes, int begin, int length) {
            boolean there = begin >= 0 && length >= 0 && length <= bytes.length - begin;
            if (!there || length > LONGEST_CODE || count >= MOST_PARTS) {
                return;
            }
            System.arraycopy(bytes, begin, rows[count], 0, length);
            lengths[count] = length;
            count++;
        }

        void dropLast() {
            if (count > 0) {
                count--;
            }
        }

        boolean hasPart(int p) {
            return p >= 0 && p < count;
        }

        boolean hasByte(int p, int i) {
            return p >= 0 && p < count && i >= 0 && i < lengths[p];
        }

        int lengthOf(int p) {
            return hasPart(p) ? lengths[p] : 0;
        }

        /** The row that begins with the bytes of a part. */
        int[] rowOf(int p) {
            return rows[p >= 0 && p < rows.length ? p : 0];
        }

        int byteAt(int p, int i) {
            return hasByte(p, i) ? rows[p][i] : 0;
        }

        void setByte(int p, int i, int b) {
            if (hasByte(p, i)) {
                rows[p][i] = b;
            }
        }
    }

    /** The way that a check goes through a proof, by the proof's bytes alone. */
    static final class Way {
        private static final int NOWHERE = -1;
        private static final int GOES_ON = 0;
        private static final int ENDS = 1;
        private static final int BREAKS = 2;

        private final Proof proof;
        private final Hasher hasher;
        private int account;
        private int part;
        private int[] row;
        private int rowLength;
        private int place;
        private int depth;
        private boolean found;
        private long nonce;
        private long balance;

        Way(Proof proof, Hasher hasher) {
            this.proof = proof;
            this.hasher = hasher;
            row = proof.rowOf(0);
        }

        /** Answers what check() does for an account and a root. */
        int follow(int wanted, int[] root) {
            account = wanted;
            depth = 0;
            found = false;
            if (!enterPart(0, root, root.length, 0)) {
                return BAD;
            }
            int state = GOES_ON;
            for (int step = 0; step < MOST_STEPS && state == GOES_ON; step++) {
                int item = passNode();
                state = item == NOWHERE ? ENDS : goOn(item);
            }
            if (state == BREAKS || part != proof.count() - 1) {
                return BAD;
            }
            return found ? 1 : 0;
        }

        /** What the latest follow() found, if it answered 1. */
        long foundNonce() {
            return nonce;
        }

        long foundBalance() {
            return balance;
        }

        /** Goes to the beginning of a part if there is one and its hash stands at a place of a row. */
        private boolean enterPart(int p, int[] referring, int length, int hashPlace) {
            if (!proof.hasPart(p)) {
                return false;
            }
            hasher.hash(proof.rowOf(p), 0, proof.lengthOf(p));
            if (!hasher.standsIn(referring, length, hashPlace)) {
                return false;
            }
            part = p;
            row = proof.rowOf(p);
            rowLength = proof.lengthOf(p);
            place = 0;
            return true;
        }

        private int goOn(int item) {
            int b = byteAt(item);
            if (b == HASH_ROW) {
                return enterPart(part + 1, row, rowLength, item + 1) ? GOES_ON : BREAKS;
            }
            if (b < LIST) {
                return ENDS;
            }
            place = item;
            return GOES_ON;
        }

        /** The item to go on to from the node at the place, or NOWHERE. */
        private int passNode() {
            int first = firstItem();
            int second = first == NOWHERE ? NOWHERE : itemEnd(first);
            int secondEnd = second == NOWHERE ? NOWHERE : itemEnd(second);
            if (secondEnd == NOWHERE) {
                return NOWHERE;
            }
            return secondEnd == nodeEnd(first) ? passDigits(first, second) : passFork(first);
        }

        private int passDigits(int first, int second) {
            int begin = bytesBegin(first);
            int length = second - begin;
            if (length == 0) {
                return NOWHERE;
            }
            int flag = byteAt(begin) / BASE;
            int odd = flag % 2;
            int number = 2 * length - 2 + odd;
            if (depth + number > DIGITS || !haveDigits(begin, 2 - odd, number)) {
                return NOWHERE;
            }
            depth += number;
            if ((flag & MARK) == 0) {
                return second;
            }
            if (depth == DIGITS) {
                findValue(second);
            }
            return NOWHERE;
        }

        /** Whether the halves of the bytes, from the given half on, are the account's next digits. */
        private boolean haveDigits(int begin, int firstHalf, int number) {
            for (int i = 0; i < number; i++) {
                int half = firstHalf + i;
                int b = byteAt(begin + half / 2);
                int here = half % 2 == 0 ? b / BASE : b % BASE;
                if (here != digit(account, depth + i)) {
                    return false;
                }
            }
            return true;
        }

        private int passFork(int first) {
            if (depth >= DIGITS) {
                return NOWHERE;
            }
            int item = first;
            int wanted = digit(account, depth);
            for (int i = 0; i < wanted && item != NOWHERE; i++) {
                item = itemEnd(item);
            }
            depth++;
            return item;
        }

        private void findValue(int item) {
            int first = byteAt(item) < ROW ? item + 1 : item + 2;
            int second = itemEnd(first);
            found = true;
            nonce = numberAt(first, second);
            balance = second == NOWHERE ? 0 : numberAt(second, itemEnd(second));
        }

        // An item that can't be read ends NOWHERE, before its beginning, so that it has no bytes and makes 0.
        private long numberAt(int item, int end) {
            long number = 0;
            for (int i = bytesBegin(item); i < end; i++) {
                number = number << 8 | byteAt(i);
            }
            return number;
        }

        private int firstItem() {
            int b = byteAt(place);
            if (b < LIST || b > LIST + SHORT + 2) {
                return NOWHERE;
            }
            return place + 1 + Math.max(0, b - LIST - SHORT);
        }

        private int nodeEnd(int first) {
            int b = byteAt(place);
            if (b <= LIST + SHORT) {
                return first + b - LIST;
            }
            int low = byteAt(first - 1);
            return b == LIST + SHORT + 1 ? first + low : first + 256 * byteAt(first - 2) + low;
        }

        private int bytesBegin(int item) {
            return byteAt(item) < ROW ? item : item + 1;
        }

        /** The place behind an item, or NOWHERE when it can't be read. */
        private int itemEnd(int item) {
            int b = byteAt(item);
            if (b < ROW) {
                return item + 1;
            }
            if (b <= ROW + SHORT) {
                return item + 1 + b - ROW;
            }
            return b >= LIST && b <= LIST + SHORT ? item + 1 + b - LIST : NOWHERE;
        }

        /** A byte that the part has not counts as 0. */
        private int byteAt(int at) {
            return at >= 0 && at < rowLength && at < row.length ? row[at] : 0;
        }
    }
}
