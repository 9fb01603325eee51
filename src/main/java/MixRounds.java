import java.util.Arrays;

/**
 * A mix that forgets in which order letters came, and a watcher who counts how likely a letter that
 * came out is which. What each call does and answers stands in the document DOC.md, as promises 1 to 28;
 * words in capitals are its terms.
 */
public final class MixRounds {
    public static final int BAD = -1, NOT = -2, FULL = -3, NONE = -4, NULL = -11, CAST = -12, INDEX = -13, SIZE = -14;

    private static final int POLICY = 0, T = 1, P = 2, D = 3, TOLD = 4;
    private static final int[] AT_FIRST = {0, 3, 1, 0};
    private static final int[] LEAST = {0, 1, 0, 0};
    private static final int[] MOST = {3, 8, 4, 3};
    private static final int BATCH = 0, POOL = 1, CLOCK = 2, HALF = 3, POLICIES = 4;

    private static final int PEOPLE = 8, DUMMY = 8, OWN = 9;
    private static final int FULL_LETTERS = 76, FULL_ROUNDS = 12, FULL_INSIDE = 12;
    // The 76th letter may still bring three dummies with it, and so may the 12th that is inside.
    private static final int MOST_LETTERS = FULL_LETTERS + 3, MOST_INSIDE = FULL_INSIDE + 3;
    private static final int FOUND = 0, OUTS = 1, OWN_OUTS = 2, M = 3, J = 4, DUMMIES = 5, FACTS = 6;

    private static final int ABOVE = 0, BELOW = 1;
    // Euclid needs no more steps than this for two numbers of 63 bits.
    private static final int DIVISOR_STEPS = 100;

    private static final int KNOWN = 6;
    private static final int MOST_TURNS = 40;
    private static final int TAPE_LENGTH = 90, FAULT = -20;
    private static final int TICKED = -1;

    private static final int SHEETS = 4, LANES = 4, MOST_ITEMS = 24, NO_LANE = -1;
    private static final int MOST_PAIRS = 8, MOST_COMING = 9, MOST_GOING = 40;

    private final Book book = new Book();
    private final Past past = new Past();
    private final Book imageBook = new Book();
    private final Past imagePast = new Past();
    private boolean imaged = false;
    private final Tape tape = new Tape();
    private final Sheet[] sheets = new Sheet[SHEETS];

    public MixRounds() {
        for (int s = 0; s < SHEETS; s++) {
            sheets[s] = new Sheet();
        }
    }

    // ---- 1 letters, rounds

    public int come(int sender, int receiver) {
        if (!within(sender, 0, PEOPLE - 1) && sender != OWN || !within(receiver, 0, PEOPLE - 1)) {
            return BAD;
        }
        if (!book.takesLetter()) {
            return FULL;
        }
        past.remember(book);
        return book.takeLetter(sender, receiver);
    }

    public int tick() {
        if (book.isFull()) {
            return FULL;
        }
        past.remember(book);
        return book.hearTick();
    }

    public int tell(int what, int v) {
        if (!within(what, 0, TOLD - 1) || !within(v, LEAST[what], MOST[what])) {
            return BAD;
        }
        int was = book.told[what];
        if (was == v) {
            return NOT;
        }
        past.remember(book);
        book.told[what] = v;
        return was;
    }

    public int begin() {
        int were = book.letters;
        if (were == 0) {
            return NOT;
        }
        past.remember(book);
        book.clear();
        return were;
    }

    public int letter(int i, int what) {
        if (!book.hasLetter(i)) {
            return BAD;
        }
        switch (what) {
            case 0: return book.senderOf(i);
            case 1: return book.receiverOf(i);
            case 2: return book.firstOf(i);
            case 3: return book.wentRounds[i];
            case 4: return book.wentPlaces[i];
            default: return BAD;
        }
    }

    public int inside(int k) {
        if (k < 0) {
            return BAD;
        }
        return k < book.waiting && k < MOST_INSIDE ? book.waiters[k] : NONE;
    }

    public int round(int r, int what) {
        if (!book.hasRound(r) || !within(what, 0, FACTS - 1)) {
            return BAD;
        }
        return book.fact(r, what);
    }

    public int out(int r, int k, int what) {
        if (!book.hasOut(r, k)) {
            return BAD;
        }
        switch (what) {
            case 0: return book.outLetter(r, k);
            case 1: return book.receiverOf(book.outLetter(r, k));
            case 2: return Watcher.possible(book, r, k);
            case 3: return Watcher.likeliest(book, r, k);
            default: return BAD;
        }
    }

    public int count(int what) {
        if (within(what, 0, TOLD - 1)) {
            return book.told[what];
        }
        switch (what) {
            case 4: return book.waiting;
            case 5: return book.letters;
            case 6: return book.rounds;
            case 7: return past.known;
            default: return BAD;
        }
    }

    // ---- 2 the watcher

    public long chance(int r, int k, int i, int what) {
        if (!book.hasOut(r, k) || !book.hasLetter(i) || !isPart(what)) {
            return BAD;
        }
        if (book.isOwnOut(r, k)) {
            return lowest(book.outLetter(r, k) == i ? 1 : 0, 1, what);
        }
        return lowest(Watcher.weight(book, i, r), Watcher.whole(book, 0, r + 1), what);
    }

    public long sender(int r, int k, int u, int what) {
        if (!book.hasOut(r, k) || !within(u, 0, OWN) || !isPart(what)) {
            return BAD;
        }
        if (book.isOwnOut(r, k)) {
            return lowest(u == OWN ? 1 : 0, 1, what);
        }
        return lowest(Watcher.senderWeight(book, u, r), Watcher.whole(book, 0, r + 1), what);
    }

    public long stays(int i, int what) {
        if (!book.hasLetter(i) || !isPart(what)) {
            return BAD;
        }
        if (book.senderOf(i) == OWN) {
            return NOT;
        }
        int first = book.firstOf(i);
        return lowest(Watcher.left(book, first, book.rounds), Watcher.whole(book, first, book.rounds), what);
    }

    public long expected(int u, int v, int what) {
        if (!within(u, 0, OWN) || !within(v, 0, PEOPLE - 1) || !isPart(what)) {
            return BAD;
        }
        return lowest(Watcher.expectedWeight(book, u, v), Watcher.whole(book, 0, book.rounds), what);
    }

    public int blend() {
        if (book.told[POLICY] != BATCH || book.told[D] > 0) {
            return NONE;
        }
        int toEmpty = book.waiting == 0 ? 0 : Math.max(1, book.told[T] - book.waiting);
        return toEmpty + book.told[T] - 1;
    }

    // ---- 3 what else is done

    public int type(int letter) {
        if (!within(letter, ' ', '~')) {
            return BAD;
        }
        if (tape.length >= TAPE_LENGTH) {
            return FULL;
        }
        tape.add(letter);
        return tape.length;
    }

    public int read() {
        int fault = tape.parse();
        tape.length = 0;
        if (fault >= 0) {
            return FAULT - fault;
        }
        past.remember(book);
        int done = 0;
        while (done < tape.events && play(done)) {
            done++;
        }
        return done;
    }

    public int drift(int n) {
        if (!within(n, 1, MOST_TURNS)) {
            return BAD;
        }
        for (int turn = 0; turn < n; turn++) {
            past.remember(book);
            driftOnce();
        }
        return book.letters;
    }

    public int undo() {
        if (past.known == 0) {
            return NONE;
        }
        past.bringBack(book);
        return past.known;
    }

    public int seed(int v) {
        if (v < 0) {
            return BAD;
        }
        int was = book.draw;
        book.draw = v;
        return was;
    }

    public int image() {
        imageBook.become(book);
        imagePast.become(past);
        imaged = true;
        return 1;
    }

    public int restore() {
        if (!imaged) {
            return NONE;
        }
        book.become(imageBook);
        past.become(imagePast);
        return 1;
    }

    // ---- sheets

    public int fits(int sheet, int lane, int i, int n) {
        if (!isSheet(sheet) || !isLane(lane) || !within(n, 1, MOST_PAIRS)) {
            return BAD;
        }
        Sheet row = sheets[sheet];
        int fault = row.fault(lane, i, 2 * n);
        if (fault != 0) {
            return fault;
        }
        if (!row.tellsPairs(i, n)) {
            return NOT;
        }
        int set = 0;
        for (int policy = 0; policy < POLICIES; policy++) {
            if (fitsPolicy(row, i, n, policy)) {
                set |= 1 << policy;
            }
        }
        return set;
    }

    public int film(int r, int sheet, int lane, int i) {
        if (!book.hasRound(r) || !isSheet(sheet) || !isLane(lane)) {
            return BAD;
        }
        int n = book.fact(r, OUTS);
        Sheet row = sheets[sheet];
        int fault = row.fault(lane, i, n);
        if (fault != 0) {
            return fault;
        }
        for (int k = 0; k < n; k++) {
            row.put(i + k, book.receiverOf(book.outLetter(r, k)));
        }
        return n;
    }

    public int sheet(int sheet, int lane, int n) {
        if (!isSheet(sheet) || !isLane(lane) || n > MOST_ITEMS) {
            return BAD;
        }
        if (n < 0) {
            return SIZE;
        }
        sheets[sheet].renew(lane, n);
        return n;
    }

    public int drop(int sheet) {
        if (!isSheet(sheet)) {
            return BAD;
        }
        Sheet row = sheets[sheet];
        if (row.isMissing()) {
            return NULL;
        }
        int had = row.size;
        row.renew(NO_LANE, 0);
        return had;
    }

    public int item(int sheet, int lane, int i, long v) {
        if (!isSheet(sheet) || !isLane(lane)) {
            return BAD;
        }
        Sheet row = sheets[sheet];
        int fault = row.fault(lane, i, 1);
        if (fault != 0) {
            return fault;
        }
        row.put(i, v);
        return 1;
    }

    public int copy(int from, int i, int to, int j, int n) {
        if (!isSheet(from) || !isSheet(to)) {
            return BAD;
        }
        Sheet source = sheets[from];
        Sheet target = sheets[to];
        if (source.isMissing() || target.isMissing()) {
            return NULL;
        }
        if (source.lane != target.lane) {
            return CAST;
        }
        if (!source.holds(i, n) || !target.holds(j, n)) {
            return INDEX;
        }
        // arraycopy takes all items ahead of putting any, so one sheet may be both ends.
        System.arraycopy(source.items, i, target.items, j, n);
        return n;
    }

    private static boolean within(int v, int least, int most) {
        return v >= least && v <= most;
    }

    private static boolean isPart(int what) {
        return what == ABOVE || what == BELOW;
    }

    private static boolean isSheet(int sheet) {
        return within(sheet, 0, SHEETS - 1);
    }

    private static boolean isLane(int lane) {
        return within(lane, 0, LANES - 1);
    }

    /** The part that is asked for of a fraction in lowest terms. */
    private static long lowest(long above, long below, int what) {
        if (above <= 0 || below <= 0) {
            return what == ABOVE ? 0 : 1;
        }
        long divisor = greatestDivisor(above, below);
        long part = what == ABOVE ? above : below;
        return divisor > 0 ? part / divisor : part;
    }

    private static long greatestDivisor(long a, long b) {
        long divisor = a;
        long rest = b;
        for (int step = 0; step < DIVISOR_STEPS && rest != 0; step++) {
            long next = divisor % rest;
            divisor = rest;
            rest = next;
        }
        return divisor;
    }

    /** Does EVENT e of the tape's TEXT; false: it is refused. */
    private boolean play(int e) {
        if (!within(e, 0, TAPE_LENGTH - 1)) {
            return false;
        }
        int sender = tape.eventSenders[e];
        return sender == TICKED ? tickIfHeard() : takeIfRoom(sender, tape.eventReceivers[e]);
    }

    private boolean tickIfHeard() {
        if (book.isFull()) {
            return false;
        }
        book.hearTick();
        return true;
    }

    private boolean takeIfRoom(int sender, int receiver) {
        if (!book.takesLetter()) {
            return false;
        }
        book.takeLetter(sender, receiver);
        return true;
    }

    private void driftOnce() {
        int x = book.nextDraw();
        if (x % 8 == 0) {
            tickIfHeard();
        } else {
            takeIfRoom(x / 8 % PEOPLE, x / 64 % PEOPLE);
        }
    }

    /** Would the n pairs of a row be so by this policy, from none INSIDE on? */
    private boolean fitsPolicy(Sheet row, int i, int n, int policy) {
        int waiting = 0;
        for (int pair = 0; pair < n; pair++) {
            long coming = row.at(i + 2 * pair);
            int going = 0;
            for (int c = 0; c < coming && c < MOST_COMING; c++) {
                if (waiting >= FULL_INSIDE) {
                    return false;
                }
                waiting++;
                int leaving = Book.leaving(policy, book.told, waiting, false);
                waiting = staying(waiting, leaving);
                going += leaving;
            }
            int leaving = Book.leaving(policy, book.told, waiting, true);
            waiting = staying(waiting, leaving);
            going += leaving;
            if (going != row.at(i + 2 * pair + 1)) {
                return false;
            }
        }
        return true;
    }

    /** How many are INSIDE then; dummies come only if there is a ROUND. */
    private int staying(int waiting, int leaving) {
        return leaving > 0 ? waiting + book.told[D] - leaving : waiting;
    }

    /** THE BOOK with what is told and THE DRAW: all that is brought back when something is UNDONE. */
    private static final class Book {
        final int[] told = AT_FIRST.clone();
        int draw = 1;
        int letters = 0;
        final int[] senders = new int[MOST_LETTERS];
        final int[] receivers = new int[MOST_LETTERS];
        final int[] firsts = new int[MOST_LETTERS];
        final int[] wentRounds = new int[MOST_LETTERS];
        final int[] wentPlaces = new int[MOST_LETTERS];
        int waiting = 0;
        final int[] waiters = new int[MOST_INSIDE];
        int rounds = 0;
        final int[] facts = new int[FULL_ROUNDS * FACTS];
        final int[] outs = new int[FULL_ROUNDS * MOST_INSIDE];

        void become(Book other) {
            System.arraycopy(other.told, 0, told, 0, TOLD);
            draw = other.draw;
            letters = other.letters;
            System.arraycopy(other.senders, 0, senders, 0, letters);
            System.arraycopy(other.receivers, 0, receivers, 0, letters);
            System.arraycopy(other.firsts, 0, firsts, 0, letters);
            System.arraycopy(other.wentRounds, 0, wentRounds, 0, letters);
            System.arraycopy(other.wentPlaces, 0, wentPlaces, 0, letters);
            waiting = other.waiting;
            System.arraycopy(other.waiters, 0, waiters, 0, waiting);
            rounds = other.rounds;
            System.arraycopy(other.facts, 0, facts, 0, rounds * FACTS);
            System.arraycopy(other.outs, 0, outs, 0, rounds * MOST_INSIDE);
        }

        void clear() {
            letters = 0;
            waiting = 0;
            rounds = 0;
        }

        boolean isFull() {
            return letters >= FULL_LETTERS || rounds >= FULL_ROUNDS;
        }

        boolean takesLetter() {
            return !isFull() && waiting < FULL_INSIDE;
        }

        boolean hasLetter(int i) {
            return i >= 0 && i < letters && i < MOST_LETTERS;
        }

        boolean hasRound(int r) {
            return r >= 0 && r < rounds && r < FULL_ROUNDS;
        }

        boolean hasOut(int r, int k) {
            return hasRound(r) && k >= 0 && k < MOST_INSIDE && k < fact(r, OUTS);
        }

        int fact(int r, int what) {
            return hasRound(r) && within(what, 0, FACTS - 1) ? facts[r * FACTS + what] : 0;
        }

        int outLetter(int r, int k) {
            return hasOut(r, k) ? outs[r * MOST_INSIDE + k] : NONE;
        }

        boolean isOwnOut(int r, int k) {
            return senderOf(outLetter(r, k)) == OWN;
        }

        int senderOf(int i) {
            return hasLetter(i) ? senders[i] : NONE;
        }

        int receiverOf(int i) {
            return hasLetter(i) ? receivers[i] : NONE;
        }

        int firstOf(int i) {
            return hasLetter(i) ? firsts[i] : NONE;
        }

        /** Changes THE DRAW: x. */
        int nextDraw() {
            draw = (draw * 1103515245 + 12345) & 0x7fffffff;
            return draw >> 16;
        }

        int takeLetter(int sender, int receiver) {
            add(sender, receiver);
            return goRound(leaving(told[POLICY], told, waiting, false));
        }

        int hearTick() {
            return goRound(leaving(told[POLICY], told, waiting, true));
        }

        /** How many go OUT, dummies counted, if so many are INSIDE as a letter has come or at a TICK; 0: no ROUND. */
        static int leaving(int policy, int[] told, int waiting, boolean ticked) {
            int all = waiting + told[D];
            switch (policy) {
                case BATCH: return !ticked && waiting >= told[T] ? all : 0;
                case POOL: return !ticked && waiting >= told[T] + told[P] ? all - told[P] : 0;
                case CLOCK: return ticked && waiting > told[P] ? all - told[P] : 0;
                case HALF: return ticked && waiting > 0 ? (all + 1) / 2 : 0;
                default: return 0;
            }
        }

        private void add(int sender, int receiver) {
            if (letters >= MOST_LETTERS || waiting >= MOST_INSIDE) {
                return;
            }
            senders[letters] = sender;
            receivers[letters] = receiver;
            firsts[letters] = rounds;
            wentRounds[letters] = NONE;
            wentPlaces[letters] = NONE;
            waiters[waiting] = letters;
            waiting++;
            letters++;
        }

        private int goRound(int going) {
            if (going <= 0 || rounds >= FULL_ROUNDS) {
                return 0;
            }
            for (int d = 0; d < told[D]; d++) {
                add(DUMMY, nextDraw() % PEOPLE);
            }
            int found = waiting;
            int ownFound = ownWaiting();
            for (int k = 0; k < going; k++) {
                letOut(k);
            }
            int ownOuts = ownFound - ownWaiting();
            int at = rounds * FACTS;
            facts[at + FOUND] = found;
            facts[at + OUTS] = going;
            facts[at + OWN_OUTS] = ownOuts;
            facts[at + M] = found - ownFound;
            facts[at + J] = going - ownOuts;
            facts[at + DUMMIES] = told[D];
            rounds++;
            return going;
        }

        private int ownWaiting() {
            int own = 0;
            for (int w = 0; w < waiting && w < MOST_INSIDE; w++) {
                int i = waiters[w];
                if (hasLetter(i) && senders[i] == OWN) {
                    own++;
                }
            }
            return own;
        }

        private void letOut(int k) {
            int x = nextDraw();
            if (waiting <= 0 || k >= MOST_INSIDE || rounds >= FULL_ROUNDS) {
                return;
            }
            int place = x % waiting;
            int i = waiters[place];
            if (!hasLetter(i)) {
                return;
            }
            waiting--;
            System.arraycopy(waiters, place + 1, waiters, place, waiting - place);
            wentRounds[i] = rounds;
            wentPlaces[i] = k;
            outs[rounds * MOST_INSIDE + k] = i;
        }
    }

    /**
     * What the watcher counts, as whole numbers over one denominator: M of rounds multiplied. With 12
     * rounds of at most 15 letters all of it stays far below 63 bits, so no fraction is reduced on the way.
     */
    private static final class Watcher {

        /** M of a round; 1 for 0: a LEFT ahead of such a round was 0 for all letters that it could divide. */
        private static long share(Book book, int q) {
            return Math.max(1, book.fact(q, M));
        }

        private static long kept(Book book, int q) {
            return book.fact(q, M) - book.fact(q, J);
        }

        /** M of the rounds from one on, below another, multiplied. */
        static long whole(Book book, int from, int below) {
            long product = 1;
            for (int q = from; q < below; q++) {
                product *= share(book, q);
            }
            return product;
        }

        /** M less J of the rounds from one on, below another, multiplied. */
        static long left(Book book, int from, int below) {
            long product = 1;
            for (int q = from; q < below; q++) {
                product *= kept(book, q);
            }
            return product;
        }

        /** CHANCE of letter i to be an OUT of round r that is not OWN, over the whole up to r. */
        static long weight(Book book, int i, int r) {
            int first = book.firstOf(i);
            if (book.senderOf(i) == OWN || first > r) {
                return 0;
            }
            return whole(book, 0, first) * left(book, first, r);
        }

        /** CHANCE of all letters of a sender together to be that OUT, over the whole up to r. */
        static long senderWeight(Book book, int u, int r) {
            long held = fresh(book, u, 0);
            long whole = 1;
            for (int q = 0; q < r; q++) {
                whole *= share(book, q);
                held = held * kept(book, q) + whole * fresh(book, u, q + 1);
            }
            return held;
        }

        /** EXPECTED from a sender to a receiver, over the whole of all rounds. */
        static long expectedWeight(Book book, int u, int v) {
            long sum = 0;
            long held = fresh(book, u, 0);
            long whole = 1;
            for (int r = 0; r < book.rounds; r++) {
                whole *= share(book, r);
                long inRound = u == OWN ? whole * outsTo(book, r, v, true) : held * outsTo(book, r, v, false);
                sum = sum * share(book, r) + inRound;
                held = held * kept(book, r) + whole * fresh(book, u, r + 1);
            }
            return sum;
        }

        /** How many letters of a sender, none of them OWN, round q was the first to find. */
        private static int fresh(Book book, int u, int q) {
            int found = 0;
            for (int i = 0; i < book.letters && u != OWN; i++) {
                if (book.senderOf(i) == u && book.firstOf(i) == q) {
                    found++;
                }
            }
            return found;
        }

        private static int outsTo(Book book, int r, int v, boolean own) {
            int found = 0;
            for (int k = 0; k < book.fact(r, OUTS); k++) {
                int i = book.outLetter(r, k);
                if (book.receiverOf(i) == v && (book.senderOf(i) == OWN) == own) {
                    found++;
                }
            }
            return found;
        }

        /** How many letters may be an OUT. */
        static int possible(Book book, int r, int k) {
            if (book.isOwnOut(r, k)) {
                return 1;
            }
            int found = 0;
            for (int i = 0; i < book.letters; i++) {
                if (weight(book, i, r) > 0) {
                    found++;
                }
            }
            return found;
        }

        /** Which letter an OUT is likeliest. */
        static int likeliest(Book book, int r, int k) {
            int best = book.outLetter(r, k);
            if (book.isOwnOut(r, k)) {
                return best;
            }
            long greatest = 0;
            for (int i = 0; i < book.letters; i++) {
                long now = weight(book, i, r);
                if (now > greatest) {
                    greatest = now;
                    best = i;
                }
            }
            return best;
        }
    }

    /** The latest six states that may be brought back, in a ring. */
    private static final class Past {
        final Book[] books = new Book[KNOWN];
        int oldest = 0;
        int known = 0;

        Past() {
            for (int b = 0; b < KNOWN; b++) {
                books[b] = new Book();
            }
        }

        void remember(Book book) {
            books[(oldest + known) % KNOWN].become(book);
            if (known < KNOWN) {
                known++;
            } else {
                oldest = (oldest + 1) % KNOWN;
            }
        }

        void bringBack(Book book) {
            if (known <= 0) {
                return;
            }
            known--;
            book.become(books[(oldest + known) % KNOWN]);
        }

        void become(Past other) {
            oldest = 0;
            known = other.known;
            for (int b = 0; b < known; b++) {
                books[b].become(other.books[(other.oldest + b) % KNOWN]);
            }
        }
    }

    /** THE TAPE, and the EVENTS of the TEXT that was read from it last. */
    private static final class Tape {
        final int[] signs = new int[TAPE_LENGTH];
        int length = 0;
        final int[] eventSenders = new int[TAPE_LENGTH];
        final int[] eventReceivers = new int[TAPE_LENGTH];
        int events = 0;

        void add(int sign) {
            if (length < TAPE_LENGTH) {
                signs[length] = sign;
                length++;
            }
        }

        /** Finds the EVENTS: the place of the FAULT, or -1. */
        int parse() {
            events = 0;
            int at = skipBlanks(0);
            for (int e = 0; e < TAPE_LENGTH && (at < length || e == 0); e++) {
                int sender = senderAt(at);
                if (sender == NONE) {
                    return at;
                }
                int receiver = 0;
                if (sender != TICKED) {
                    at = skipBlanks(at + 1);
                    if (signAt(at) != '>') {
                        return at;
                    }
                    at = skipBlanks(at + 1);
                    receiver = figureAt(at);
                    if (receiver == NONE) {
                        return at;
                    }
                }
                eventSenders[e] = sender;
                eventReceivers[e] = receiver;
                events = e + 1;
                at = skipBlanks(at + 1);
            }
            return -1;
        }

        private int skipBlanks(int from) {
            int at = from;
            while (at < length && signAt(at) == ' ') {
                at++;
            }
            return at;
        }

        /** 0 stands for the end: no sign of a tape is 0. */
        private int signAt(int at) {
            return at >= 0 && at < length && at < TAPE_LENGTH ? signs[at] : 0;
        }

        private int senderAt(int at) {
            switch (signAt(at)) {
                case '.': return TICKED;
                case '!': return OWN;
                default: return figureAt(at);
            }
        }

        private int figureAt(int at) {
            int figure = signAt(at) - '0';
            return within(figure, 0, PEOPLE - 1) ? figure : NONE;
        }
    }

    /** A sheet: nothing, or a row of a LANE. */
    private static final class Sheet {
        int lane = NO_LANE;
        int size = 0;
        final long[] items = new long[MOST_ITEMS];

        boolean isMissing() {
            return lane == NO_LANE;
        }

        void renew(int newLane, int n) {
            lane = newLane;
            size = n;
            Arrays.fill(items, 0L);
        }

        boolean holds(int from, int n) {
            return from >= 0 && n >= 0 && from <= size && n <= size - from;
        }

        /** NULL, CAST or INDEX, if n items cannot be taken from one on; else 0. */
        int fault(int wantedLane, int from, int n) {
            if (isMissing()) {
                return NULL;
            }
            if (lane != wantedLane) {
                return CAST;
            }
            return holds(from, n) ? 0 : INDEX;
        }

        boolean tellsPairs(int from, int n) {
            for (int pair = 0; pair < n; pair++) {
                long coming = at(from + 2 * pair);
                long going = at(from + 2 * pair + 1);
                if (coming < 0 || coming > MOST_COMING || going < 0 || going > MOST_GOING) {
                    return false;
                }
            }
            return true;
        }

        long at(int i) {
            return holds(i, 1) ? items[i] : 0;
        }

        void put(int i, long v) {
            if (!holds(i, 1)) {
                return;
            }
            switch (lane) {
                case 0: items[i] = (byte) v; break;
                case 1: items[i] = (short) v; break;
                case 2: items[i] = (int) v; break;
                default: items[i] = v; break;
            }
        }
    }
}
