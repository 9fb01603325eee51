/** For each promise of the document ordinary inputs, the edges that it names, and wrong inputs, worked out by hand. */
public final class PromiseTests {
    private static final int BAD = -1, NOT = -2, FULL = -3, NONE = -4, NULL = -11, CAST = -12, INDEX = -13, SIZE = -14;
    private static final int LOW = Integer.MIN_VALUE, HIGH = Integer.MAX_VALUE;
    private static int wrong = 0;
    private static int promise = 0;
    private static int row = 0;

    private static void promise(int number) {
        promise = number;
        row = 0;
    }

    private static void due(long want, long got) {
        row++;
        if (got != want) {
            wrong++;
            System.out.println("promise " + promise + ", row " + row + ": answered " + got + ", due is " + want);
        }
    }

    private static void fraction(long above, long below, long gotAbove, long gotBelow) {
        due(above, gotAbove);
        due(below, gotBelow);
    }

    private static void comes(MixRounds x, int n) {
        for (int k = 0; k < n; k++) {
            x.come(k % 8, k % 8);
        }
    }

    private static int types(MixRounds x, String text) {
        int n = 0;
        for (int k = 0; k < text.length(); k++) {
            n = x.type(text.charAt(k));
        }
        return n;
    }

    private static int reads(MixRounds x, String text) {
        types(x, text);
        return x.read();
    }

    private static MixRounds told(int policy, int t, int p, int d) {
        MixRounds x = new MixRounds();
        x.tell(0, policy);
        x.tell(1, t);
        x.tell(2, p);
        x.tell(3, d);
        return x;
    }

    /** A mix by CLOCK that is nearly full of letters: six rounds, then so many letters that 75 are in the book. */
    private static MixRounds nearlyFull() {
        MixRounds x = told(2, 3, 0, 0);
        for (int r = 0; r < 6; r++) {
            comes(x, 12);
            x.tick();
        }
        comes(x, 3);
        return x;
    }

    private static void newObject() {
        promise(1);
        MixRounds x = new MixRounds();
        int[] first = {0, 3, 1, 0, 0, 0, 0, 0};
        for (int what = 0; what < 8; what++) {
            due(first[what], x.count(what));
        }
        due(1, x.seed(5));
        due(NONE, x.restore());
        due(NONE, x.undo());
        for (int s = 0; s < 4; s++) {
            due(NULL, x.drop(s));
        }
        due(-20, x.read());
    }

    private static void come() {
        promise(2);
        MixRounds x = new MixRounds();
        for (int odd : new int[] {-1, 8, 10, LOW, HIGH}) {
            due(BAD, x.come(odd, 0));
        }
        for (int odd : new int[] {-1, 8, 9, LOW, HIGH}) {
            due(BAD, x.come(0, odd));
        }
        due(0, x.count(5));
        due(0, x.come(9, 7));
        due(0, x.come(7, 0));
        due(3, x.come(0, 0));
        // POOL: five and one at least.
        x = told(1, 5, 1, 0);
        comes(x, 5);
        due(5, x.come(0, 0));
        due(1, x.count(4));
        // BATCH with more inside than T, as T is told lower.
        x = told(0, 8, 1, 3);
        comes(x, 7);
        x.tell(1, 2);
        due(11, x.come(0, 0));
        due(0, x.count(4));
        // CLOCK, HALF: none goes out as one comes; the 13th is refused.
        for (int policy = 2; policy < 4; policy++) {
            x = told(policy, 1, 0, 0);
            for (int k = 0; k < 12; k++) {
                due(0, x.come(1, 1));
            }
            due(FULL, x.come(1, 1));
            due(BAD, x.come(1, 8));
            due(12, x.count(5));
        }
        // The book is full with 76 letters; the 76th may still bring dummies.
        x = nearlyFull();
        due(75, x.count(5));
        x.tell(3, 3);
        x.tell(0, 0);
        due(7, x.come(0, 0));
        due(79, x.count(5));
        due(FULL, x.come(0, 0));
        // The book is full with 12 rounds.
        x = told(0, 1, 0, 0);
        for (int r = 0; r < 12; r++) {
            due(1, x.come(2, 3));
        }
        due(FULL, x.come(2, 3));
        due(12, x.count(6));
    }

    private static void draws() {
        promise(2);
        // 1 becomes 1103527590, x 16838; 16838 by 3 leaves 2. Then 377401575 (5758, by 2 leaves 0), then the last.
        MixRounds x = new MixRounds();
        comes(x, 3);
        due(2, x.out(0, 0, 0));
        due(0, x.out(0, 1, 0));
        due(1, x.out(0, 2, 0));
        due(662824084, x.seed(0));
        // The dummy takes a draw of its own ahead: 16838 by 8 leaves 6; then 5758 by 2 leaves 0.
        x = told(0, 1, 0, 1);
        due(2, x.come(0, 0));
        due(6, x.letter(1, 1));
        due(8, x.letter(1, 0));
        due(0, x.out(0, 0, 0));
        due(1, x.out(0, 1, 0));
        // The draw stays where none goes out.
        x = new MixRounds();
        x.come(0, 0);
        x.tick();
        due(1, x.seed(1));
    }

    private static void tick() {
        promise(3);
        for (int policy = 0; policy < 2; policy++) {
            MixRounds x = told(2, 1, 0, 0);
            comes(x, 12);
            x.tell(0, policy);
            due(0, x.tick());
            due(12, x.count(4));
            due(0, x.count(6));
        }
        MixRounds x = told(2, 3, 4, 0);
        comes(x, 4);
        due(0, x.tick());
        due(0, x.count(6));
        x.come(0, 0);
        due(1, x.tick());
        due(4, x.count(4));
        x.tell(3, 3);
        due(0, x.tick());
        x.come(0, 0);
        due(4, x.tick());
        x = told(3, 3, 4, 0);
        due(0, x.tick());
        comes(x, 5);
        due(3, x.tick());
        due(1, x.tick());
        due(1, x.tick());
        due(0, x.tick());
        x.tell(3, 2);
        due(0, x.tick());
        x.come(0, 0);
        due(2, x.tick());
        due(1, x.count(4));
        // Full by letters, then by rounds, by each policy.
        x = nearlyFull();
        due(0, x.come(0, 0));
        for (int policy = 0; policy < 4; policy++) {
            x.tell(0, policy);
            due(FULL, x.tick());
        }
        x = told(3, 1, 0, 1);
        x.come(0, 0);
        for (int r = 0; r < 12; r++) {
            due(1, x.tick());
        }
        due(FULL, x.tick());
        due(13, x.count(5));
    }

    private static void tell() {
        promise(4);
        int[] least = {0, 1, 0, 0};
        int[] most = {3, 8, 4, 3};
        int[] first = {0, 3, 1, 0};
        for (int what = 0; what < 4; what++) {
            MixRounds x = new MixRounds();
            due(NOT, x.tell(what, first[what]));
            due(BAD, x.tell(what, least[what] - 1));
            due(BAD, x.tell(what, most[what] + 1));
            due(BAD, x.tell(what, LOW));
            due(BAD, x.tell(what, HIGH));
            due(0, x.count(7));
            due(first[what], x.tell(what, most[what]));
            due(most[what], x.count(what));
            due(most[what], x.tell(what, least[what]));
            due(least[what], x.count(what));
            due(2, x.count(7));
        }
        MixRounds x = new MixRounds();
        for (int odd : new int[] {-1, 4, LOW, HIGH}) {
            due(BAD, x.tell(odd, 1));
        }
    }

    private static void begin() {
        promise(5);
        MixRounds x = told(0, 2, 2, 1);
        due(NOT, x.begin());
        comes(x, 3);
        x.seed(77);
        due(4, x.begin());
        due(0, x.count(4));
        due(0, x.count(5));
        due(0, x.count(6));
        due(2, x.count(1));
        due(2, x.count(2));
        due(1, x.count(3));
        due(NONE, x.inside(0));
        due(BAD, x.letter(0, 0));
        due(BAD, x.round(0, 0));
        due(NOT, x.begin());
        due(77, x.seed(1));
        x.undo();
        due(4, x.count(5));
        due(1, x.count(6));
        due(1, x.count(4));
    }

    private static void letter() {
        promise(6);
        MixRounds x = told(1, 2, 1, 0);
        x.come(3, 4);
        x.come(9, 5);
        x.come(6, 7);
        x.come(1, 2);
        due(3, x.letter(0, 0));
        due(9, x.letter(1, 0));
        due(5, x.letter(1, 1));
        due(0, x.letter(2, 2));
        due(1, x.letter(3, 2));
        due(NONE, x.letter(3, 3));
        due(NONE, x.letter(3, 4));
        // 16838 by 3 leaves 2, 5758 by 2 leaves 0: letter 1 stays.
        due(0, x.letter(2, 3));
        due(0, x.letter(2, 4));
        due(0, x.letter(0, 3));
        due(1, x.letter(0, 4));
        due(NONE, x.letter(1, 3));
        for (int odd : new int[] {-1, 5, LOW, HIGH}) {
            due(BAD, x.letter(0, odd));
        }
        for (int odd : new int[] {-1, 4, LOW, HIGH}) {
            due(BAD, x.letter(odd, 0));
        }
    }

    private static void inside() {
        promise(7);
        MixRounds x = told(1, 2, 1, 0);
        comes(x, 5);
        // Letters 0, 1 and 2 were found by round 0, letter 1 stayed; letters 1, 3, 4 by round 1.
        due(1, x.count(4));
        x.come(0, 0);
        due(2, x.count(4));
        due(5, x.inside(1));
        due(NONE, x.inside(2));
        due(NONE, x.inside(HIGH));
        due(BAD, x.inside(-1));
        due(BAD, x.inside(LOW));
        x = told(2, 3, 1, 0);
        comes(x, 12);
        for (int k = 0; k < 12; k++) {
            due(k, x.inside(k));
        }
        due(NONE, x.inside(12));
    }

    private static void round() {
        promise(8);
        MixRounds x = told(0, 4, 1, 2);
        due(BAD, x.round(0, 0));
        x.come(9, 0);
        comes(x, 2);
        x.come(9, 0);
        int[] facts = {6, 6, 2, 4, 4, 2};
        for (int what = 0; what < 6; what++) {
            due(facts[what], x.round(0, what));
        }
        x.tell(3, 0);
        due(2, x.round(0, 5));
        due(BAD, x.round(0, 6));
        due(BAD, x.round(0, -1));
        due(BAD, x.round(1, 0));
        due(BAD, x.round(-1, 0));
        due(BAD, x.round(HIGH, 0));
        due(BAD, x.round(LOW, 0));
        // Letters 0 (OWN), 1, 2: 2 and 0 go.
        x = told(1, 2, 1, 0);
        x.come(9, 0);
        comes(x, 2);
        int[] pool = {3, 2, 1, 2, 1, 0};
        for (int what = 0; what < 6; what++) {
            due(pool[what], x.round(0, what));
        }
    }

    private static void out() {
        promise(9);
        MixRounds x = told(1, 2, 1, 0);
        due(BAD, x.out(0, 0, 0));
        x.come(9, 7);
        x.come(1, 6);
        x.come(2, 5);
        due(2, x.out(0, 0, 0));
        due(5, x.out(0, 0, 1));
        due(2, x.out(0, 0, 2));
        due(1, x.out(0, 0, 3));
        due(0, x.out(0, 1, 0));
        due(7, x.out(0, 1, 1));
        due(1, x.out(0, 1, 2));
        due(0, x.out(0, 1, 3));
        due(BAD, x.out(0, 2, 0));
        due(BAD, x.out(0, -1, 0));
        due(BAD, x.out(1, 0, 0));
        due(BAD, x.out(-1, 0, 0));
        due(BAD, x.out(0, 0, 4));
        due(BAD, x.out(0, 0, -1));
        due(BAD, x.out(HIGH, LOW, 0));
        // After a batch nothing older may be an out: its LEFT is 0.
        x = told(0, 2, 1, 0);
        comes(x, 4);
        due(2, x.out(1, 0, 2));
        due(2, x.out(1, 0, 3));
        // A later letter is likelier than one that may have gone.
        x = told(3, 1, 0, 0);
        comes(x, 2);
        x.tick();
        x.come(0, 0);
        x.tick();
        due(3, x.out(1, 0, 2));
        due(2, x.out(1, 0, 3));
    }

    private static void likeOnes() {
        promise(9);
        // A round in which only OWN ones go leaves all as likely as those that come then: the least number counts.
        for (int seed = 0; seed < 200; seed++) {
            MixRounds x = told(3, 1, 0, 0);
            x.come(0, 0);
            x.come(9, 0);
            x.seed(seed);
            x.tick();
            if (x.round(0, 4) == 0) {
                x.come(1, 1);
                x.tick();
                due(2, x.out(1, 0, 2));
                due(0, x.out(1, 0, 3));
                return;
            }
        }
        due(1, 0);
    }

    private static void count() {
        promise(10);
        MixRounds x = told(1, 2, 3, 1);
        comes(x, 6);
        int[] all = {1, 2, 3, 1, 4, 7, 1, 6};
        for (int what = 0; what < 8; what++) {
            due(all[what], x.count(what));
        }
        for (int odd : new int[] {-1, 8, LOW, HIGH}) {
            due(BAD, x.count(odd));
        }
    }

    private static void chance() {
        promise(11);
        MixRounds x = told(1, 2, 1, 0);
        x.come(9, 7);
        x.come(1, 6);
        x.come(2, 5);
        fraction(1, 2, x.chance(0, 0, 1, 0), x.chance(0, 0, 1, 1));
        fraction(0, 1, x.chance(0, 0, 0, 0), x.chance(0, 0, 0, 1));
        fraction(1, 1, x.chance(0, 1, 0, 0), x.chance(0, 1, 0, 1));
        fraction(0, 1, x.chance(0, 1, 1, 0), x.chance(0, 1, 1, 1));
        x.come(3, 3);
        fraction(0, 1, x.chance(0, 0, 3, 0), x.chance(0, 0, 3, 1));
        for (int odd : new int[] {-1, 2, LOW, HIGH}) {
            due(BAD, x.chance(0, odd, 0, 0));
            due(BAD, x.chance(0, 0, 0, odd));
        }
        for (int odd : new int[] {-1, 4, LOW, HIGH}) {
            due(BAD, x.chance(0, 0, odd, 0));
            due(BAD, x.chance(odd, 0, 0, 0));
        }
        // CLOCK with 4 that stay of 12, 12, ..: 1 by 3, and 12 by 12 is taken in lowest terms.
        x = told(2, 1, 4, 0);
        comes(x, 12);
        for (int r = 0; r < 6; r++) {
            due(8, x.tick());
            comes(x, 8);
        }
        fraction(1, 12, x.chance(0, 0, 0, 0), x.chance(0, 0, 0, 1));
        fraction(1, 12 * 243, x.chance(5, 0, 0, 0), x.chance(5, 0, 0, 1));
        fraction(1, 36, x.chance(5, 0, 43, 0), x.chance(5, 0, 43, 1));
        fraction(1, 12, x.chance(5, 0, 44, 0), x.chance(5, 0, 44, 1));
        fraction(0, 1, x.chance(5, 0, 52, 0), x.chance(5, 0, 52, 1));
        due(BAD, x.chance(5, 0, 60, 0));
    }

    private static void sender() {
        promise(12);
        MixRounds x = told(1, 3, 1, 1);
        x.come(2, 0);
        x.come(2, 0);
        x.come(9, 0);
        x.come(4, 0);
        // Four and a dummy: M is 4.
        int k = x.letter(2, 3) == 0 && x.letter(2, 4) == 0 ? 1 : 0;
        fraction(1, 2, x.sender(0, k, 2, 0), x.sender(0, k, 2, 1));
        fraction(1, 4, x.sender(0, k, 4, 0), x.sender(0, k, 4, 1));
        fraction(1, 4, x.sender(0, k, 8, 0), x.sender(0, k, 8, 1));
        fraction(0, 1, x.sender(0, k, 9, 0), x.sender(0, k, 9, 1));
        fraction(0, 1, x.sender(0, k, 0, 0), x.sender(0, k, 0, 1));
        for (int odd : new int[] {-1, 10, LOW, HIGH}) {
            due(BAD, x.sender(0, 0, odd, 0));
            due(BAD, x.sender(odd, 0, 0, 0));
            due(BAD, x.sender(0, odd, 0, 0));
            due(BAD, x.sender(0, 0, 0, odd));
        }
        due(BAD, x.sender(0, 0, 0, 2));
        x = told(0, 2, 0, 0);
        x.come(9, 0);
        x.come(9, 0);
        fraction(1, 1, x.sender(0, 0, 9, 0), x.sender(0, 0, 9, 1));
        fraction(0, 1, x.sender(0, 0, 1, 0), x.sender(0, 0, 1, 1));
        // Halves: two of sender 1 at first (1 by 2 of them stays), one more: 2 by 4 and 1 by 2 together are 1.
        x = told(3, 1, 0, 0);
        x.come(1, 0);
        x.come(1, 0);
        x.tick();
        x.come(1, 0);
        x.tick();
        fraction(1, 1, x.sender(1, 0, 1, 0), x.sender(1, 0, 1, 1));
    }

    private static void stays() {
        promise(13);
        MixRounds x = told(3, 1, 0, 0);
        x.come(1, 0);
        x.come(9, 0);
        fraction(1, 1, x.stays(0, 0), x.stays(0, 1));
        due(NOT, x.stays(1, 0));
        due(BAD, x.stays(1, 2));
        due(BAD, x.stays(2, 0));
        due(BAD, x.stays(-1, 0));
        due(BAD, x.stays(0, -1));
        due(BAD, x.stays(HIGH, 0));
        x = told(3, 1, 0, 0);
        comes(x, 5);
        x.tick();
        fraction(2, 5, x.stays(0, 0), x.stays(0, 1));
        comes(x, 2);
        x.tick();
        // 2 by 5 times 2 by 4.
        fraction(1, 5, x.stays(0, 0), x.stays(0, 1));
        fraction(1, 2, x.stays(6, 0), x.stays(6, 1));
        // All went: 0 by 1, even if OWN ones alone are found then.
        x = told(0, 1, 0, 0);
        x.come(1, 1);
        x.come(9, 1);
        due(0, x.round(1, 3));
        fraction(0, 1, x.stays(0, 0), x.stays(0, 1));
        fraction(0, 1, x.chance(1, 0, 0, 0), x.chance(1, 0, 0, 1));
        x.come(2, 1);
        fraction(1, 1, x.chance(2, 0, 2, 0), x.chance(2, 0, 2, 1));
        fraction(0, 1, x.chance(2, 0, 0, 0), x.chance(2, 0, 0, 1));
    }

    private static void expected() {
        promise(14);
        MixRounds x = told(0, 3, 0, 0);
        fraction(0, 1, x.expected(0, 0, 0), x.expected(0, 0, 1));
        x.come(1, 4);
        x.come(1, 4);
        x.come(2, 5);
        fraction(4, 3, x.expected(1, 4, 0), x.expected(1, 4, 1));
        fraction(2, 3, x.expected(1, 5, 0), x.expected(1, 5, 1));
        fraction(2, 3, x.expected(2, 4, 0), x.expected(2, 4, 1));
        x.come(9, 4);
        x.come(1, 4);
        x.come(2, 4);
        fraction(1, 1, x.expected(9, 4, 0), x.expected(9, 4, 1));
        fraction(7, 3, x.expected(1, 4, 0), x.expected(1, 4, 1));
        fraction(0, 1, x.expected(9, 5, 0), x.expected(9, 5, 1));
        fraction(0, 1, x.expected(8, 4, 0), x.expected(8, 4, 1));
        for (int odd : new int[] {-1, 10, LOW, HIGH}) {
            due(BAD, x.expected(odd, 0, 0));
            due(BAD, x.expected(0, odd, 0));
            due(BAD, x.expected(0, 0, odd));
        }
        due(BAD, x.expected(0, 8, 0));
        due(BAD, x.expected(0, 0, 2));
    }

    private static void blend() {
        promise(15);
        MixRounds x = told(0, 8, 1, 0);
        due(7, x.blend());
        x.come(0, 0);
        due(14, x.blend());
        comes(x, 6);
        due(8, x.blend());
        x.tell(1, 3);
        due(3, x.blend());
        x.tell(1, 1);
        due(1, x.blend());
        x.tell(3, 1);
        due(NONE, x.blend());
        x.tell(3, 0);
        for (int policy = 1; policy < 4; policy++) {
            x.tell(0, policy);
            due(NONE, x.blend());
        }
    }

    private static void type() {
        promise(16);
        MixRounds x = new MixRounds();
        for (int odd : new int[] {31, 127, -1, 0, LOW, HIGH}) {
            due(BAD, x.type(odd));
        }
        due(1, x.type(32));
        due(2, x.type(126));
        for (int n = 3; n <= 90; n++) {
            due(n, x.type('.'));
        }
        due(FULL, x.type('.'));
        due(BAD, x.type(31));
        due(-21, x.read());
        due(1, x.type('.'));
        // Neither an image nor something undone touches the tape.
        x.image();
        due(2, x.type('.'));
        x.restore();
        due(3, x.type('.'));
    }

    private static void read() {
        promise(17);
        MixRounds x = new MixRounds();
        String[] faults = {"", "   ", "0", "0 ", "0>", "0>8", "8>0", "0>1x", " 0 > ", "!!>1", ".,", "0>1 2", "0 1", ">", "0>!", "0>.", "0.>1", "  x"};
        int[] places = {0, 3, 1, 2, 2, 2, 0, 3, 5, 1, 1, 5, 2, 0, 2, 2, 1, 2};
        for (int f = 0; f < faults.length; f++) {
            due(-20 - places[f], reads(x, faults[f]));
            due(0, x.count(7));
            due(0, x.count(5));
        }
        due(1, reads(x, "."));
        due(1, x.count(7));
        due(3, reads(x, " 7>7!>0. "));
        due(2, x.count(7));
        due(2, x.count(5));
        due(7, x.letter(0, 0));
        due(9, x.letter(1, 0));
        due(0, x.letter(1, 1));
        due(-20, x.read());
        // As far as none is refused: the 13th comes no more, and what stands behind it is not done.
        x = told(2, 3, 0, 0);
        due(12, reads(x, "0>00>00>00>00>00>00>00>00>00>00>00>00>0."));
        due(12, x.count(4));
        due(0, x.count(6));
        due(3, x.count(7));
        x.undo();
        due(0, x.count(5));
        // 12 rounds: a tick is refused as well.
        x = told(0, 1, 0, 0);
        due(12, reads(x, "0>00>00>00>00>00>00>00>00>00>00>00>0. "));
        due(0, reads(x, "."));
    }

    private static void drift() {
        promise(18);
        for (int odd : new int[] {0, 41, -1, LOW, HIGH}) {
            due(BAD, new MixRounds().drift(odd));
        }
        // 16838 by 8 leaves 6; 2104 by 8 leaves 0; 263 by 8 leaves 7.
        MixRounds x = new MixRounds();
        due(1, x.drift(1));
        due(0, x.letter(0, 0));
        due(7, x.letter(0, 1));
        due(1, x.count(7));
        due(1103527590, x.seed(1103527590));
        // 5758 by 8 leaves 6; 719 by 8 leaves 7; 89 by 8 leaves 1.
        due(2, x.drift(1));
        due(7, x.letter(1, 0));
        due(1, x.letter(1, 1));
        // A turn of which x is 0 by 8 is a tick: 0 becomes 12345, x is 0.
        x = told(3, 1, 0, 0);
        x.come(0, 0);
        x.seed(0);
        due(1, x.drift(1));
        due(1, x.count(6));
        // One that is refused changes but the draw, and may be undone.
        x = told(2, 1, 0, 0);
        comes(x, 12);
        x.seed(1);
        due(12, x.drift(1));
        due(6, x.count(7));
        due(1103527590, x.seed(3));
        x.undo();
        due(1, x.seed(1));
        due(5, x.count(7));
        x = new MixRounds();
        x.drift(40);
        due(6, x.count(7));
    }

    private static void undo() {
        promise(19);
        MixRounds x = new MixRounds();
        due(NONE, x.undo());
        x.come(0, 0);
        x.tick();
        x.tell(1, 2);
        x.seed(1);
        due(2, x.come(1, 1));
        due(4, x.count(7));
        x.tell(0, 3);
        x.begin();
        due(6, x.count(7));
        due(5, x.undo());
        due(2, x.count(5));
        due(1, x.count(6));
        due(4, x.undo());
        due(0, x.count(0));
        x.seed(9);
        due(3, x.undo());
        due(1, x.seed(8));
        due(1, x.count(4));
        due(0, x.count(6));
        due(NONE, x.letter(0, 3));
        due(2, x.undo());
        due(3, x.count(1));
        due(1, x.undo());
        due(1, x.count(5));
        due(0, x.undo());
        due(0, x.count(5));
        due(NONE, x.undo());
        // What is refused is not known; six are, older ones are lost.
        x.tell(0, 0);
        x.come(8, 0);
        x.begin();
        due(0, x.count(7));
        x = told(2, 1, 0, 0);
        x.undo();
        due(1, x.count(2));
        for (int n = 0; n < 9; n++) {
            x.come(0, 0);
        }
        for (int n = 5; n >= 0; n--) {
            due(n, x.undo());
        }
        due(NONE, x.undo());
        due(3, x.count(5));
    }

    private static void seed() {
        promise(20);
        MixRounds x = new MixRounds();
        due(BAD, x.seed(-1));
        due(BAD, x.seed(LOW));
        due(1, x.seed(HIGH));
        due(HIGH, x.seed(0));
        due(0, x.seed(0));
        due(0, x.count(7));
        // 2147483647 becomes the lowest 31 bits of 12345 less 1103515245.
        x.seed(HIGH);
        x.drift(1);
        due(1043980748, x.seed(1));
    }

    private static void image() {
        promise(21);
        MixRounds x = told(1, 2, 2, 0);
        x.seed(11);
        comes(x, 3);
        x.sheet(0, 0, 2);
        due(1, x.image());
        x.come(0, 0);
        x.tell(3, 1);
        x.undo();
        x.undo();
        x.undo();
        x.seed(12);
        x.sheet(0, 1, 5);
        due(1, x.restore());
        due(3, x.count(5));
        due(6, x.count(7));
        due(11, x.seed(11));
        due(5, x.drop(0));
        due(5, x.undo());
        due(2, x.count(5));
        // All six may be undone, POLICY, T and P told at last.
        for (int n = 4; n >= 0; n--) {
            due(n, x.undo());
        }
        due(NONE, x.undo());
        due(0, x.count(0));
        due(3, x.count(1));
        due(1, x.count(2));
        due(1, x.seed(1));
        comes(x, 2);
        // A later image takes the place of the first.
        due(1, x.image());
        x.begin();
        due(1, x.restore());
        due(2, x.count(5));
        due(2, x.count(7));
    }

    private static void restore() {
        promise(22);
        MixRounds x = new MixRounds();
        due(NONE, x.restore());
        x.image();
        comes(x, 3);
        x.tell(0, 2);
        for (int twice = 0; twice < 2; twice++) {
            due(1, x.restore());
            due(0, x.count(5));
            due(0, x.count(6));
            due(0, x.count(0));
            due(0, x.count(7));
            due(1, x.seed(1));
            comes(x, 2);
        }
        due(2, x.count(7));
        x.undo();
        x.undo();
        due(NONE, x.undo());
        due(1, x.restore());
    }

    private static void pairs(MixRounds x, int sheet, int lane, int... numbers) {
        x.sheet(sheet, lane, numbers.length);
        for (int k = 0; k < numbers.length; k++) {
            x.item(sheet, lane, k, numbers[k]);
        }
    }

    private static void fits() {
        promise(23);
        MixRounds x = told(0, 3, 1, 0);
        due(NULL, x.fits(0, 0, -1, 1));
        pairs(x, 0, 0, 0, 0);
        due(15, x.fits(0, 0, 0, 1));
        pairs(x, 0, 3, 4, 3, 1, 0);
        due(3, x.fits(0, 3, 0, 2));
        due(3, x.fits(0, 3, 0, 1) & 3);
        // CLOCK leaves 1 of 4, and 2 of them are more than 1.
        pairs(x, 0, 2, 4, 3, 1, 1);
        due(4, x.fits(0, 2, 0, 2));
        // HALF: 3 of 5, then 1 of 2, then 1, then none.
        pairs(x, 0, 2, 5, 3, 0, 1, 0, 1, 0, 0);
        due(8, x.fits(0, 2, 0, 4));
        due(BAD, x.fits(0, 2, 0, 0));
        due(BAD, x.fits(0, 2, 0, 9));
        due(BAD, x.fits(4, 2, 0, 1));
        due(BAD, x.fits(-1, 2, 0, 1));
        due(BAD, x.fits(0, 4, 0, 1));
        due(BAD, x.fits(0, -1, 0, 1));
        due(CAST, x.fits(0, 1, 99, 1));
        due(INDEX, x.fits(0, 2, 1, 4));
        due(INDEX, x.fits(0, 2, -1, 1));
        due(INDEX, x.fits(0, 2, HIGH, 8));
        due(INDEX, x.fits(0, 2, LOW, 8));
        due(0, x.fits(0, 2, 1, 3));
        for (int odd : new int[] {-1, 10}) {
            pairs(x, 1, 1, 0, 0, odd, 0);
            due(NOT, x.fits(1, 1, 0, 2));
            due(INDEX, x.fits(1, 1, 0, 3));
            due(15, x.fits(1, 1, 0, 1));
        }
        for (int odd : new int[] {-1, 41}) {
            pairs(x, 1, 1, 0, 0, 9, odd);
            due(NOT, x.fits(1, 1, 0, 2));
        }
        pairs(x, 1, 1, 9, 40);
        due(0, x.fits(1, 1, 0, 1));
        due(0, x.count(5));
        due(0, x.count(6));
        due(1, x.seed(1));
        fitsLimits();
    }

    private static void fitsLimits() {
        // With dummies: by BATCH each round of one lets 4 go out, nine of them 36, and more than 12 rounds are fine.
        MixRounds x = told(3, 1, 0, 3);
        pairs(x, 0, 0, 9, 36, 9, 36, 9, 36, 9, 36, 9, 36, 9, 36, 9, 36, 9, 36);
        due(3, x.fits(0, 0, 0, 8));
        // By HALF 12 of 9 and 3 are halved to 6; 9 more would be 15.
        pairs(x, 0, 0, 9, 6, 9, 9);
        due(8, x.fits(0, 0, 0, 1));
        due(0, x.fits(0, 0, 0, 2));
        pairs(x, 0, 0, 9, 6, 6, 8);
        due(8, x.fits(0, 0, 0, 2));
        // By POOL the 12th is taken, and brings the round.
        x = told(0, 8, 4, 0);
        pairs(x, 0, 0, 9, 0, 3, 8);
        due(2, x.fits(0, 0, 0, 2));
        // By CLOCK 4 stay: 8 more are 12, 9 are too many.
        pairs(x, 0, 0, 9, 5, 8, 8);
        due(4, x.fits(0, 0, 0, 2));
        pairs(x, 0, 0, 9, 5, 9, 9);
        due(0, x.fits(0, 0, 0, 2));
    }

    private static void film() {
        promise(24);
        MixRounds x = new MixRounds();
        due(BAD, x.film(0, 0, 0, 0));
        x.come(0, 5);
        x.come(0, 6);
        x.come(0, 7);
        due(NULL, x.film(0, 0, 0, 0));
        x.sheet(0, 2, 4);
        due(CAST, x.film(0, 0, 1, 9));
        due(INDEX, x.film(0, 0, 2, 2));
        due(INDEX, x.film(0, 0, 2, -1));
        due(INDEX, x.film(0, 0, 2, HIGH));
        due(BAD, x.film(1, 0, 2, 0));
        due(BAD, x.film(-1, 0, 2, 0));
        due(BAD, x.film(0, 4, 2, 0));
        due(BAD, x.film(0, -1, 2, 0));
        due(BAD, x.film(0, 0, 4, 0));
        due(BAD, x.film(0, 0, -1, 0));
        due(3, x.film(0, 0, 2, 1));
        // Letters 2, 0, 1 went, to 7, 5, 6: the sheet is 0 7 5 6 then. Of 7 by T 5, P 1 BATCH and POOL let 5 go.
        x.tell(1, 5);
        due(3, x.fits(0, 2, 1, 1));
        // Of 5 and a dummy BATCH lets 6 go.
        x.tell(3, 1);
        due(1, x.fits(0, 2, 2, 1));
        x.tell(1, 7);
        due(0, x.fits(0, 2, 0, 1));
        // 7 5 6, and what stood behind stays: of 6 BATCH lets 6 go.
        due(3, x.film(0, 0, 2, 0));
        x.tell(1, 6);
        x.tell(3, 0);
        due(1, x.fits(0, 2, 2, 1));
        due(4, x.drop(0));
    }

    private static void sheet() {
        promise(25);
        MixRounds x = new MixRounds();
        for (int s = 0; s < 4; s++) {
            for (int lane = 0; lane < 4; lane++) {
                due(24, x.sheet(s, lane, 24));
                due(1, x.item(s, lane, 23, 1));
                due(INDEX, x.item(s, lane, 24, 1));
            }
        }
        due(BAD, x.sheet(0, 0, 25));
        due(BAD, x.sheet(0, 0, HIGH));
        due(SIZE, x.sheet(0, 0, -1));
        due(SIZE, x.sheet(0, 0, LOW));
        for (int odd : new int[] {-1, 4, LOW, HIGH}) {
            due(BAD, x.sheet(odd, 0, -1));
            due(BAD, x.sheet(0, odd, -1));
        }
        due(1, x.item(0, 3, 23, 1));
        // A new row holds 0s.
        pairs(x, 0, 0, 9, 9);
        due(2, x.sheet(0, 0, 2));
        due(15, x.fits(0, 0, 0, 1));
        due(0, x.sheet(0, 0, 0));
        due(INDEX, x.item(0, 0, 0, 1));
    }

    private static void drop() {
        promise(26);
        MixRounds x = new MixRounds();
        due(NULL, x.drop(3));
        x.sheet(3, 1, 7);
        due(7, x.drop(3));
        due(NULL, x.drop(3));
        due(NULL, x.item(3, 1, 0, 0));
        x.sheet(3, 1, 0);
        due(0, x.drop(3));
        for (int odd : new int[] {-1, 4, LOW, HIGH}) {
            due(BAD, x.drop(odd));
        }
    }

    private static void item() {
        promise(27);
        MixRounds x = new MixRounds();
        due(NULL, x.item(0, 0, 0, 1));
        long[] wraps = {256, 65536, 4294967296L};
        for (int lane = 0; lane < 3; lane++) {
            x.sheet(0, lane, 2);
            due(1, x.item(0, lane, 0, wraps[lane] + 4));
            due(1, x.item(0, lane, 1, -3 * wraps[lane] + 3));
            due(7, x.fits(0, lane, 0, 1));
            // The highest bit of a lane is its sign: the item is below 0.
            due(1, x.item(0, lane, 1, wraps[lane] / 2));
            due(NOT, x.fits(0, lane, 0, 1));
        }
        x.sheet(0, 3, 2);
        due(1, x.item(0, 3, 1, 4294967296L + 3));
        due(NOT, x.fits(0, 3, 0, 1));
        due(1, x.item(0, 3, 1, Long.MIN_VALUE));
        due(NOT, x.fits(0, 3, 0, 1));
        due(CAST, x.item(0, 2, 5, 1));
        due(INDEX, x.item(0, 3, 2, 1));
        due(INDEX, x.item(0, 3, -1, 1));
        due(INDEX, x.item(0, 3, LOW, 1));
        due(INDEX, x.item(0, 3, HIGH, 1));
        for (int odd : new int[] {-1, 4, LOW, HIGH}) {
            due(BAD, x.item(odd, 0, 0, 1));
            due(BAD, x.item(0, odd, 0, 1));
        }
    }

    private static void copy() {
        promise(28);
        MixRounds x = new MixRounds();
        due(NULL, x.copy(0, 0, 1, 0, 1));
        pairs(x, 0, 1, 4, 3, 3, 3);
        due(NULL, x.copy(0, -1, 1, 0, 1));
        due(NULL, x.copy(1, 0, 0, 0, 1));
        x.sheet(1, 2, 4);
        due(CAST, x.copy(0, -1, 1, 0, 1));
        x.sheet(1, 1, 3);
        due(INDEX, x.copy(0, 0, 1, 0, 4));
        due(INDEX, x.copy(1, 0, 0, 0, 4));
        due(INDEX, x.copy(0, -1, 1, 0, 1));
        due(INDEX, x.copy(0, 0, 1, -1, 1));
        due(INDEX, x.copy(0, 0, 1, 0, -1));
        due(INDEX, x.copy(0, 0, 1, 4, 0));
        due(INDEX, x.copy(0, 5, 1, 0, 0));
        due(INDEX, x.copy(0, HIGH, 1, 1, HIGH));
        due(INDEX, x.copy(0, 1, 1, HIGH, HIGH));
        due(INDEX, x.copy(0, LOW, 1, 0, LOW));
        due(0, x.copy(0, 4, 1, 3, 0));
        for (int odd : new int[] {-1, 4, LOW, HIGH}) {
            due(BAD, x.copy(odd, 0, 0, 0, -1));
            due(BAD, x.copy(0, 0, odd, 0, -1));
        }
        due(2, x.copy(0, 0, 1, 1, 2));
        due(7, x.fits(1, 1, 1, 1));
        due(0, x.fits(1, 1, 0, 1));
        // As if all were taken ahead, in both directions: 4 3 3 3 becomes 4 4 3 3; then 4 3 3 3.
        due(3, x.copy(0, 0, 0, 1, 3));
        due(7, x.fits(0, 1, 1, 1));
        due(1, x.fits(0, 1, 2, 1));
        due(3, x.copy(0, 1, 0, 0, 3));
        due(7, x.fits(0, 1, 0, 1));
        due(1, x.fits(0, 1, 1, 1));
        due(1, x.fits(0, 1, 2, 1));
    }

    public static void main(String[] args) {
        newObject();
        come();
        draws();
        tick();
        tell();
        begin();
        letter();
        inside();
        round();
        out();
        likeOnes();
        count();
        chance();
        sender();
        stays();
        expected();
        blend();
        type();
        read();
        drift();
        undo();
        seed();
        image();
        restore();
        fits();
        film();
        sheet();
        drop();
        item();
        copy();
        System.out.println(wrong == 0 ? "all promises are kept" : wrong + " answers are not as due");
        if (wrong != 0) {
            System.exit(1);
        }
    }
}
