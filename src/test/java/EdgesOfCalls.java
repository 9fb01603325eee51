/** What each call refuses, promise by promise, just at the edge and just beyond it, and what it answers there. */
public final class EdgesOfCalls extends EdgeTest {
    private static final int[] FAR = {LOW, LOW + 1, -1000, 1000, HIGH - 1, HIGH};

    private static void newObject() {
        says("Promise 1: A new object");
        MixRounds x = new MixRounds();
        int[] counts = {0, 3, 1, 0, 0, 0, 0, 0};
        for (int what = 0; what < 8; what++) {
            due(counts[what], x.count(what));
        }
        due(BAD, x.letter(0, 0));
        due(NONE, x.inside(0));
        due(BAD, x.round(0, 0));
        due(BAD, x.out(0, 0, 0));
        due(BAD, x.chance(0, 0, 0, 0));
        due(BAD, x.sender(0, 0, 0, 0));
        due(BAD, x.stays(0, 0));
        expected(0, 1, x, 0, 0);
        due(2, x.blend());
        due(-20, x.read());
        due(NONE, x.undo());
        due(NONE, x.restore());
        due(NOT, x.begin());
        due(0, x.tick());
        due(1, x.seed(1));
        // Two objects know nothing of each other.
        MixRounds y = new MixRounds();
        y.come(0, 0);
        y.image();
        due(0, x.count(LETTERS));
        due(NONE, x.restore());
    }

    private static void come() {
        says("come: BAD; FULL: THE BOOK is, or 12 are INSIDE.");
        for (int far : FAR) {
            refused(BAD, () -> waiting(1), x -> x.come(far, 0));
            refused(BAD, () -> waiting(1), x -> x.come(0, far));
        }
        says("come: how many go OUT then");
        due(0, mix(BATCH, 2, 0, 0).come(0, 0));
        due(1, mix(BATCH, 1, 0, 0).come(0, 0));
        due(4, mix(BATCH, 1, 0, 3).come(0, 0));
        MixRounds x = waiting(11);
        x.tell(D, 3);
        x.tell(POLICY, BATCH);
        due(15, x.come(0, 0));
        due(FULL, letters(76).come(OWN, 7));
        due(FULL, rounds(12).come(OWN, 7));
        due(FULL, waiting(12).come(OWN, 7));
    }

    private static void tick() {
        says("tick: how many go OUT then. FULL: THE BOOK is.");
        due(0, new MixRounds().tick());
        due(0, waiting(0).tick());
        due(1, waiting(1).tick());
        due(12, waiting(12).tick());
        due(3, letters(75).tick());
        due(FULL, letters(76).tick());
        due(0, rounds(11).tick());
        due(FULL, rounds(12).tick());
    }

    private static void tell() {
        says("tell: POLICY (what 0), T (1), P (2), D (3) becomes v: what it was. BAD; NOT: it is so.");
        MixRounds x = new MixRounds();
        due(BAD, x.tell(-1, 1));
        due(BAD, x.tell(4, 1));
        for (int far : FAR) {
            due(BAD, x.tell(far, 1));
            for (int what = 0; what < 4; what++) {
                due(BAD, x.tell(what, far));
            }
        }
        int[] least = {0, 1, 0, 0};
        int[] most = {3, 8, 4, 3};
        for (int what = 0; what < 4; what++) {
            x = new MixRounds();
            int was = x.count(what);
            for (int v = most[what]; v >= least[what]; v--) {
                due(v == was ? NOT : was, x.tell(what, v));
                due(NOT, x.tell(what, v));
                was = v;
            }
            due(BAD, x.tell(what, least[what] - 1));
            due(BAD, x.tell(what, most[what] + 1));
        }
        // In a full BOOK, too, and with 12 INSIDE.
        due(CLOCK, letters(76).tell(POLICY, BATCH));
        due(3, waiting(12).tell(T, 1));
        due(BATCH, rounds(12).tell(POLICY, HALF));
    }

    private static void begin() {
        says("begin: how many LETTERS there were. NOT: none.");
        due(NOT, new MixRounds().begin());
        due(1, waiting(1).begin());
        due(76, letters(76).begin());
        due(12, rounds(12).begin());
        MixRounds x = letters(75);
        x.tell(D, 3);
        x.tell(POLICY, BATCH);
        x.come(0, 0);
        due(79, x.begin());
        due(NOT, x.begin());
        // DUMMIES are LETTERS; what is told, and THE DRAW, stay.
        x = mix(BATCH, 1, 4, 3);
        x.come(0, 0);
        due(4, x.begin());
        int[] counts = {0, 1, 4, 3, 0, 0, 0};
        for (int what = 0; what < 7; what++) {
            due(counts[what], x.count(what));
        }
        due(changed(1, 7), x.seed(1));
        due(BAD, x.letter(0, 0));
        due(BAD, x.round(0, 0));
        due(BAD, x.out(0, 0, 0));
        due(NONE, x.inside(0));
        // Those INSIDE are gone, too: two more are too few for a BATCH of three.
        MixRounds y = comes(new MixRounds(), 2);
        due(2, y.begin());
        due(0, y.count(INSIDE));
        due(0, y.come(0, 0));
        due(0, y.come(0, 0));
        due(3, y.come(0, 0));
        // Numbers begin with 0 again.
        x.come(5, 6);
        due(5, x.letter(0, 0));
        due(0, x.letter(0, 3));
    }

    private static void letter() {
        says("letter: 2 the first ROUND that found it INSIDE, or will, 3 the ROUND in which it went OUT (NONE), 4 which OUT of it it was (NONE). BAD.");
        MixRounds x = waiting(2);
        for (int what = 0; what < 5; what++) {
            due(what == 0 ? 1 : what == 1 ? 2 : what == 2 ? 0 : NONE, x.letter(1, what));
        }
        due(BAD, x.letter(1, -1));
        due(BAD, x.letter(1, 5));
        due(BAD, x.letter(-1, 0));
        for (int i = 2; i < 80; i++) {
            due(BAD, x.letter(i, 0));
        }
        for (int far : FAR) {
            due(BAD, x.letter(far, 0));
            due(BAD, x.letter(0, far));
        }
        x.tick();
        x.come(3, 3);
        due(0, x.letter(1, 2));
        due(1, x.letter(2, 2));
        due(NONE, x.letter(2, 3));
        due(NONE, x.letter(2, 4));
        due(0, x.letter(0, 3));
        due(1, x.letter(0, 4) + x.letter(1, 4));
        // Found by 0, it goes in 1; a DUMMY is found by its own ROUND.
        x = mix(HALF, 1, 0, 1);
        x.come(0, 0);
        x.tick();
        x.tick();
        int stayed = x.letter(0, 3) == 0 ? 1 : 0;
        due(0, x.letter(stayed, 2));
        due(0, x.letter(1, 2));
        due(1, x.letter(2, 2));
        // One that waits as the BOOK is full.
        x = letters(76);
        due(6, x.letter(75, 2));
        due(NONE, x.letter(75, 3));
        due(BAD, x.letter(76, 0));
    }

    private static void inside() {
        says("inside: The number of the LETTER that stands INSIDE at k (0 on); NONE. BAD: below 0.");
        MixRounds x = waiting(0);
        due(NONE, x.inside(0));
        due(BAD, x.inside(-1));
        due(BAD, x.inside(LOW));
        due(NONE, x.inside(HIGH));
        x = waiting(12);
        due(0, x.inside(0));
        due(11, x.inside(11));
        for (int k = 12; k < 20; k++) {
            due(NONE, x.inside(k));
        }
        due(BAD, x.inside(-1));
        // As some went OUT, or THE BOOK is begun anew, none stands there any more.
        x.tell(P, 4);
        x.tick();
        for (int k = 4; k < 20; k++) {
            due(NONE, x.inside(k));
        }
        x.begin();
        for (int k = 0; k < 20; k++) {
            due(NONE, x.inside(k));
        }
    }

    private static void round() {
        says("round: 0 how many were INSIDE, DUMMIES of it, too, 1 OUTS, 2 OWN ones of these, 3 M, 4 J, 5 DUMMIES that came for it. BAD.");
        MixRounds x = comes(mix(CLOCK, 1, 4, 3), 12);
        x.tick();
        int[] facts = {15, 11, 0, 15, 11, 3};
        for (int what = 0; what < 6; what++) {
            due(facts[what], x.round(0, what));
        }
        due(BAD, x.round(0, -1));
        due(BAD, x.round(0, 6));
        due(BAD, x.round(-1, 0));
        for (int r = 1; r < 16; r++) {
            due(BAD, x.round(r, 0));
        }
        for (int far : FAR) {
            due(BAD, x.round(far, 0));
            due(BAD, x.round(0, far));
        }
        // D told since counts for nothing.
        x.tell(D, 0);
        due(3, x.round(0, 5));
        x = mix(BATCH, 1, 0, 0);
        x.come(OWN, 0);
        int[] own = {1, 1, 1, 0, 0, 0};
        for (int what = 0; what < 6; what++) {
            due(own[what], x.round(0, what));
        }
    }

    private static void out() {
        says("out: 0 its LETTER, 1 its RECEIVER, 2 how many LETTERS have a CHANCE above 0 to be it, 3 that with the greatest (of like ones the least number). BAD.");
        MixRounds x = comes(mix(POOL, 2, 1, 0), 3);
        int[] outs = {2, 3, 3, 0};
        for (int what = 0; what < 4; what++) {
            due(outs[what], x.out(0, 0, what));
        }
        due(0, x.out(0, 1, 0));
        due(BAD, x.out(0, 0, -1));
        due(BAD, x.out(0, 0, 4));
        due(BAD, x.out(0, -1, 0));
        due(BAD, x.out(-1, 0, 0));
        for (int beyond = 2; beyond < 17; beyond++) {
            due(BAD, x.out(0, beyond, 0));
            due(BAD, x.out(beyond - 1, 0, 0));
        }
        for (int far : FAR) {
            due(BAD, x.out(far, 0, 0));
            due(BAD, x.out(0, far, 0));
            due(BAD, x.out(0, 0, far));
        }
        // Like ones: all of a BATCH; the first that is not OWN.
        x = mix(BATCH, 3, 0, 0);
        x.come(OWN, 0);
        x.come(1, 0);
        x.come(1, 0);
        int k = x.letter(0, 4) == 0 ? 1 : 0;
        due(2, x.out(0, k, 2));
        due(1, x.out(0, k, 3));
        // The greatest is not the first: those that came since are likelier.
        x = comes(mix(POOL, 2, 1, 0), 5);
        due(5, x.out(1, 0, 2));
        due(3, x.out(1, 0, 3));
        // The last OUT of the greatest ROUND.
        x = comes(mix(CLOCK, 1, 0, 3), 12);
        x.tick();
        due(15, x.out(0, 14, 2));
        due(0, x.out(0, 14, 3));
        due(BAD, x.out(0, 15, 2));
    }

    private static void count() {
        says("count: 0 POLICY, 1 T, 2 P, 3 D, 4 INSIDE, 5 LETTERS, 6 ROUNDS, 7 what may be UNDONE. BAD.");
        MixRounds x = comes(mix(POOL, 2, 4, 1), 7);
        int[] counts = {1, 2, 4, 1, 5, 8, 1, 6};
        for (int what = 0; what < 8; what++) {
            due(counts[what], x.count(what));
        }
        due(BAD, x.count(-1));
        due(BAD, x.count(8));
        for (int far : FAR) {
            due(BAD, x.count(far));
        }
    }

    private static void chances() {
        says("chance, sender, stays, expected: above (what 0), below (1). BAD.");
        MixRounds x = comes(mix(POOL, 2, 1, 0), 3);
        for (int what : new int[] {-1, 2, LOW, HIGH}) {
            due(BAD, x.chance(0, 0, 0, what));
            due(BAD, x.sender(0, 0, 0, what));
            due(BAD, x.stays(0, what));
            due(BAD, x.expected(0, 0, what));
        }
        for (int r : new int[] {-1, 1, LOW, HIGH}) {
            due(BAD, x.chance(r, 0, 0, 0));
            due(BAD, x.sender(r, 0, 0, 0));
        }
        for (int k : new int[] {-1, 2, LOW, HIGH}) {
            due(BAD, x.chance(0, k, 0, 0));
            due(BAD, x.sender(0, k, 0, 0));
        }
        for (int i : new int[] {-1, 3, LOW, HIGH}) {
            due(BAD, x.chance(0, 0, i, 0));
            due(BAD, x.stays(i, 0));
        }
        for (int u : new int[] {-1, 10, LOW, HIGH}) {
            due(BAD, x.sender(0, 0, u, 0));
            due(BAD, x.expected(u, 0, 0));
        }
        for (int v : new int[] {-1, 8, LOW, HIGH}) {
            due(BAD, x.expected(0, v, 0));
        }
        chance(1, 3, x, 0, 1, 2);
        sender(1, 3, x, 0, 1, 2);
        sender(0, 1, x, 0, 1, 9);
        stays(1, 3, x, 2);
        expected(0, 1, x, 9, 7);
        says("stays: NOT: it's OWN");
        x.come(OWN, 0);
        due(NOT, x.stays(3, 0));
        due(NOT, x.stays(3, 1));
        due(BAD, x.stays(3, 2));
        due(BAD, x.stays(4, 0));
        x.tell(POLICY, CLOCK);
        x.come(7, 0);
        stays(1, 1, x, 4);
    }

    private static void blend() {
        says("blend: BLEND; NONE: another POLICY, or D above 0");
        MixRounds x = new MixRounds();
        due(2, x.blend());
        for (int d = 1; d <= 3; d++) {
            x.tell(D, d);
            due(NONE, x.blend());
        }
        x.tell(D, 0);
        for (int policy = POOL; policy <= HALF; policy++) {
            x.tell(POLICY, policy);
            due(NONE, x.blend());
        }
        x.tell(POLICY, BATCH);
        due(2, x.blend());
        due(0, rounds(12).blend());
    }

    private static void type() {
        says("type: how many it has. BAD: not 32 .. 126; FULL: 90.");
        MixRounds x = new MixRounds();
        due(BAD, x.type(31));
        due(1, x.type(32));
        due(2, x.type(126));
        due(BAD, x.type(127));
        for (int far : FAR) {
            due(BAD, x.type(far));
        }
        for (int n = 3; n <= 90; n++) {
            due(n, x.type('0'));
        }
        due(FULL, x.type('0'));
        due(BAD, x.type(31));
        due(BAD, x.type(127));
        due(-21, x.read());
        due(1, x.type('0'));
    }

    private static void read() {
        says("THE TAPE, which is empty then (by a FAULT, too), is a TEXT: how many EVENTS are done. A FAULT: -20 less its place (all else stays).");
        MixRounds x = new MixRounds();
        due(-20, x.read());
        due(2, reads(x, "0>1."));
        due(-20, x.read());
        due(1, x.type('.'));
        due(1, x.read());
        due(-20, reads(x, "x"));
        due(1, x.type('.'));
        // Refused EVENTS: empty, too.
        x = rounds(12);
        due(0, reads(x, "0>1"));
        due(1, x.type('.'));
        due(-110, reads(new MixRounds(), ".".repeat(89) + "!"));
        refused(-21, () -> row(waiting(4), 0, 1, 2, 2), y -> reads(y, "!!"));
    }

    private static void drift() {
        says("drift: A DRIFT of n turns (1 .. 40; each may be UNDONE, one that changes nothing, too): LETTERS then. BAD.");
        for (int n : new int[] {0, 41, -1, LOW, HIGH}) {
            refused(BAD, () -> waiting(2), x -> x.drift(n));
        }
        MixRounds x = new MixRounds();
        due(1, x.drift(1));
        due(1, x.count(UNDOABLE));
        x = new MixRounds();
        int letters = x.drift(40);
        due(x.count(LETTERS), letters);
        due(12, x.count(ROUNDS));
        // As 40 turns are, so are 40 times one turn.
        MixRounds y = new MixRounds();
        for (int n = 0; n < 40; n++) {
            y.drift(1);
        }
        due(letters, y.count(LETTERS));
        due(x.seed(0), y.seed(0));
    }

    private static void undo() {
        says("undo: how many more may be. NONE: none is known.");
        MixRounds x = new MixRounds();
        due(NONE, x.undo());
        x.tell(T, 1);
        due(0, x.undo());
        due(NONE, x.undo());
        x = comes(mix(CLOCK, 3, 1, 0), 9);
        for (int n = 5; n >= 0; n--) {
            due(n, x.undo());
        }
        due(NONE, x.undo());
        // To undo is nothing that may be UNDONE.
        due(0, x.count(UNDOABLE));
    }

    private static void seed() {
        says("seed: THE DRAW becomes v: what it was. BAD: below 0.");
        MixRounds x = new MixRounds();
        refused(BAD, () -> waiting(2), y -> y.seed(-1));
        refused(BAD, () -> waiting(2), y -> y.seed(LOW));
        due(1, x.seed(0));
        due(0, x.seed(HIGH));
        due(HIGH, x.seed(HIGH));
        due(HIGH, x.seed(1));
        due(0, x.count(UNDOABLE));
    }

    private static void image() {
        says("image: All but SHEETS, THE TAPE is kept as an IMAGE (what may be UNDONE, too): 1");
        alike(EdgesOfCalls::history, () -> {
            MixRounds x = history();
            due(1, x.image());
            x.begin();
            x.tell(POLICY, CLOCK);
            x.tell(D, 0);
            x.tell(P, 0);
            for (int r = 0; r < 6; r++) {
                comes(x, 12);
                x.tick();
            }
            x.drift(20);
            x.undo();
            x.undo();
            x.seed(3);
            due(1, x.restore());
            return again(x);
        });
        // SHEETS, THE TAPE stay as they are now.
        MixRounds x = typed(row(new MixRounds(), 0, 1, 5, 5), "0");
        x.image();
        x.type('>');
        x.sheet(0, 2, 9);
        x.sheet(1, 0, 3);
        x.restore();
        due(3, x.type('1'));
        due(9, x.drop(0));
        due(3, x.drop(1));
        due(1, x.read());
        // A new one takes the place of the old one.
        x = comes(mix(CLOCK, 3, 1, 0), 2);
        x.image();
        x.come(2, 2);
        x.image();
        x.come(3, 3);
        x.restore();
        due(3, x.count(LETTERS));
    }

    /** The same as in another image, so that what is asked of the image does not differ. */
    private static MixRounds again(MixRounds x) {
        x.image();
        return x;
    }

    private static MixRounds history() {
        MixRounds x = comes(mix(HALF, 2, 3, 2), 7);
        x.tick();
        x.come(OWN, 4);
        x.tick();
        comes(x, 6);
        x.tick();
        x.tick();
        x.seed(4711);
        return again(x);
    }

    private static void restore() {
        says("restore: All is as it was then: 1. NONE: there is none.");
        MixRounds x = new MixRounds();
        due(NONE, x.restore());
        due(1, x.image());
        due(1, x.restore());
        for (int twice = 0; twice < 2; twice++) {
            comes(x, 5);
            x.tell(D, 1);
            due(1, x.restore());
            int[] counts = {0, 3, 1, 0, 0, 0, 0, 0};
            for (int what = 0; what < 8; what++) {
                due(counts[what], x.count(what));
            }
            due(1, x.seed(1));
            due(NONE, x.undo());
        }
        // What was UNDONE behind the image may be UNDONE again, six of them, and what is UNDONE doesn't touch the image.
        x = comes(mix(CLOCK, 3, 1, 0), 9);
        x.image();
        for (int twice = 0; twice < 2; twice++) {
            for (int n = 5; n >= 0; n--) {
                due(n, x.undo());
            }
            due(3, x.count(LETTERS));
            due(1, x.restore());
            due(9, x.count(LETTERS));
            due(6, x.count(UNDOABLE));
        }
        // Nor does an UNDO take the image away.
        x = new MixRounds();
        x.come(0, 0);
        x.image();
        x.undo();
        due(1, x.restore());
        due(1, x.count(LETTERS));
        due(1, x.count(UNDOABLE));
    }

    private static void sheets() {
        says("fits: BAD; NULL; CAST; INDEX; NOT: an item is no such number");
        MixRounds x = row(new MixRounds(), 0, 0, 0, 0, 0, 41);
        due(BAD, x.fits(0, 0, 0, 0));
        due(NULL, x.fits(1, 0, 0, 1));
        due(CAST, x.fits(0, 1, 0, 1));
        due(INDEX, x.fits(0, 0, 0, 3));
        due(NOT, x.fits(0, 0, 0, 2));
        due(15, x.fits(0, 0, 0, 1));
        says("film: BAD; NULL; CAST; INDEX");
        comes(x, 3);
        due(BAD, x.film(1, 0, 0, 0));
        due(NULL, x.film(0, 1, 0, 0));
        due(CAST, x.film(0, 0, 1, 0));
        due(INDEX, x.film(0, 0, 0, 2));
        due(3, x.film(0, 0, 0, 1));
        says("sheet: BAD: also n above 24; SIZE: n below 0");
        due(BAD, x.sheet(0, 0, 25));
        due(24, x.sheet(0, 0, 24));
        due(0, x.sheet(0, 0, 0));
        due(SIZE, x.sheet(0, 0, -1));
        says("drop: BAD; NULL");
        due(BAD, x.drop(4));
        due(NULL, x.drop(3));
        due(0, x.drop(0));
        says("item: BAD; NULL; CAST; INDEX");
        x.sheet(0, 0, 2);
        due(BAD, x.item(0, 4, 0, 0));
        due(NULL, x.item(3, 0, 0, 0));
        due(CAST, x.item(0, 3, 0, 0));
        due(INDEX, x.item(0, 0, 2, 0));
        due(1, x.item(0, 0, 1, 0));
        says("copy: BAD; NULL (either); CAST: of unlike LANES; INDEX (n below 0, too)");
        x.sheet(1, 1, 2);
        x.sheet(2, 0, 2);
        due(BAD, x.copy(0, 0, 4, 0, 1));
        due(BAD, x.copy(-1, 0, 0, 0, 1));
        due(NULL, x.copy(0, 0, 3, 0, 1));
        due(NULL, x.copy(3, 0, 0, 0, 1));
        due(CAST, x.copy(0, 0, 1, 0, 1));
        due(INDEX, x.copy(0, 0, 2, 0, 3));
        due(INDEX, x.copy(0, 0, 2, 0, -1));
        due(2, x.copy(0, 0, 2, 0, 2));
    }

    public static void main(String[] args) {
        newObject();
        come();
        tick();
        tell();
        begin();
        letter();
        inside();
        round();
        out();
        count();
        chances();
        blend();
        type();
        read();
        drift();
        undo();
        seed();
        image();
        restore();
        sheets();
        end();
    }
}
