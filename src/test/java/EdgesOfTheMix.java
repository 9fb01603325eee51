/** The boundary cases of the document's part 1: letters, what is told, rounds, THE DRAW, THE BOOK. */
public final class EdgesOfTheMix extends EdgeTest {

    private static void lettersAreNumbered() {
        says("LETTERS are numbered as they come, 0 on");
        MixRounds x = new MixRounds();
        due(BAD, x.letter(0, 0));
        x.come(5, 6);
        due(5, x.letter(0, 0));
        due(BAD, x.letter(1, 0));
        due(BAD, x.letter(-1, 0));
        x.come(4, 6);
        due(5, x.letter(0, 0));
        due(4, x.letter(1, 0));
        due(BAD, x.letter(2, 0));
        // DUMMIES come behind the LETTER that brings the ROUND.
        x = mix(BATCH, 1, 0, 3);
        x.come(7, 0);
        int[] senders = {7, DUMMY, DUMMY, DUMMY};
        for (int i = 0; i < 4; i++) {
            due(senders[i], x.letter(i, 0));
        }
        due(BAD, x.letter(4, 0));
        x = letters(75);
        x.tell(D, 3);
        x.tick();
        due(DUMMY, x.letter(77, 0));
        due(BAD, x.letter(78, 0));
    }

    private static void senders() {
        says("a SENDER (0 .. 7; 8: it's a DUMMY; 9: it's OWN, the watcher's)");
        MixRounds x = new MixRounds();
        due(BAD, x.come(-1, 0));
        due(0, x.come(0, 0));
        due(0, x.come(7, 0));
        due(BAD, x.come(8, 0));
        due(3, x.come(9, 0));
        due(BAD, x.come(10, 0));
        due(BAD, x.come(LOW, 0));
        due(BAD, x.come(HIGH, 0));
        int[] were = {0, 7, 9};
        for (int i = 0; i < 3; i++) {
            due(were[i], x.letter(i, 0));
        }
        due(3, x.count(LETTERS));
    }

    private static void receivers() {
        says("a RECEIVER (0 .. 7)");
        MixRounds x = new MixRounds();
        for (int sender : new int[] {0, OWN}) {
            due(BAD, x.come(sender, -1));
            due(BAD, x.come(sender, 8));
            due(BAD, x.come(sender, 9));
            due(BAD, x.come(sender, LOW));
            due(BAD, x.come(sender, HIGH));
        }
        due(0, x.come(0, 0));
        due(0, x.come(OWN, 7));
        due(0, x.letter(0, 1));
        due(7, x.letter(1, 1));
        due(2, x.count(LETTERS));
    }

    private static void insideInOrder() {
        says("Those INSIDE have not gone OUT yet; they stand in the order of their numbers");
        for (int seed = 0; seed < 40; seed++) {
            MixRounds x = comes(mix(HALF, 1, 0, 2), 9);
            x.seed(seed * 7919);
            x.tick();
            comes(x, 3);
            int k = 0;
            for (int i = 0; i < x.count(LETTERS); i++) {
                if (x.letter(i, 3) == NONE) {
                    due(i, x.inside(k));
                    k++;
                }
            }
            due(k, x.count(INSIDE));
            due(NONE, x.inside(k));
        }
    }

    private static void roundsAreNumbered() {
        says("ROUNDS are numbered 0 on");
        due(BAD, rounds(0).round(0, 0));
        due(1, rounds(1).round(0, 0));
        due(BAD, rounds(1).round(1, 0));
        due(BAD, rounds(1).round(-1, 0));
        due(1, rounds(12).round(11, 0));
        due(BAD, rounds(12).round(12, 0));
        due(0, rounds(12).letter(0, 3));
        due(11, rounds(12).letter(11, 3));
    }

    private static void whatIsTold() {
        says("Told are a POLICY (0 at first), T (1 .. 8; 3 at first), P (0 .. 4; 1 at first), D (0 .. 3; 0 at first)");
        int[] first = {0, 3, 1, 0};
        int[] least = {0, 1, 0, 0};
        int[] most = {3, 8, 4, 3};
        for (int what = POLICY; what <= D; what++) {
            MixRounds x = new MixRounds();
            due(first[what], x.count(what));
            due(BAD, x.tell(what, least[what] - 1));
            due(BAD, x.tell(what, most[what] + 1));
            due(first[what], x.count(what));
            due(first[what], x.tell(what, most[what]));
            due(most[what], x.tell(what, least[what]));
            due(least[what], x.count(what));
            for (int other = POLICY; other <= D; other++) {
                due(other == what ? least[what] : first[other], x.count(other));
            }
        }
    }

    private static void batch() {
        says("0 BATCH: as soon as a LETTER comes and T at least are INSIDE then, there is a ROUND, in which all go OUT");
        for (int t = 1; t <= 8; t++) {
            MixRounds x = mix(BATCH, t, 4, 0);
            for (int k = 1; k < t; k++) {
                due(0, x.come(1, 1));
            }
            due(0, x.count(ROUNDS));
            due(t - 1, x.count(INSIDE));
            due(t, x.come(1, 1));
            due(1, x.count(ROUNDS));
            due(0, x.count(INSIDE));
        }
        // More than T are INSIDE: no ROUND till one comes.
        MixRounds x = waiting(11);
        x.tell(POLICY, BATCH);
        due(0, x.count(ROUNDS));
        due(12, x.come(1, 1));
        x = comes(mix(BATCH, 4, 0, 0), 3);
        x.tell(T, 3);
        due(0, x.count(ROUNDS));
        due(3, x.count(INSIDE));
        due(4, x.come(1, 1));
    }

    private static void pool() {
        says("1 POOL: as soon as a LETTER comes and T and P at least are INSIDE, there is one, in which all but P go OUT");
        for (int t = 1; t <= 8; t++) {
            for (int p = 0; p <= 4; p++) {
                MixRounds x = comes(mix(POOL, t, p, 0), t + p - 1);
                due(0, x.count(ROUNDS));
                due(t, x.come(1, 1));
                due(p, x.count(INSIDE));
                due(1, x.count(ROUNDS));
            }
        }
        // More than T and P are INSIDE.
        MixRounds x = waiting(11);
        x.tell(POLICY, POOL);
        x.tell(P, 4);
        due(0, x.count(ROUNDS));
        due(8, x.come(1, 1));
        due(4, x.count(INSIDE));
    }

    private static void clock() {
        says("2 CLOCK: at a TICK at which more than P are INSIDE, all but P go OUT");
        for (int p = 0; p <= 4; p++) {
            MixRounds x = comes(mix(CLOCK, 1, p, 0), p);
            due(0, x.tick());
            due(0, x.count(ROUNDS));
            due(0, x.come(1, 1));
            due(1, x.tick());
            due(1, x.count(ROUNDS));
            due(p, x.count(INSIDE));
            due(0, x.tick());
            due(1, x.count(ROUNDS));
            comes(x, 12 - p);
            due(12 - p, x.tick());
            due(p, x.count(INSIDE));
        }
    }

    private static void half() {
        says("3 HALF: at a TICK at which any are INSIDE, half of them, and one more if they are odd, go OUT");
        due(0, mix(HALF, 1, 0, 0).tick());
        int[] going = {0, 1, 1, 2, 2, 3, 3, 4, 4, 5, 5, 6, 6};
        for (int n = 0; n <= 12; n++) {
            MixRounds x = comes(mix(HALF, 1, 4, 0), n);
            due(going[n], x.tick());
            due(n - going[n], x.count(INSIDE));
            due(n > 0 ? 1 : 0, x.count(ROUNDS));
        }
    }

    private static void theOtherHappening() {
        says("(By 0, 1 a TICK does nothing; by 2, 3 none goes OUT as one comes.)");
        for (int policy = BATCH; policy <= POOL; policy++) {
            MixRounds x = waiting(12);
            x.tell(T, 1);
            x.tell(D, 3);
            x.tell(POLICY, policy);
            due(0, x.tick());
            due(0, x.count(ROUNDS));
            due(12, x.count(INSIDE));
            due(12, x.count(LETTERS));
            due(1, x.seed(0));
        }
        for (int policy = CLOCK; policy <= HALF; policy++) {
            MixRounds x = mix(policy, 1, 0, 3);
            for (int k = 0; k < 12; k++) {
                due(0, x.come(1, 1));
            }
            due(0, x.count(ROUNDS));
            due(12, x.count(INSIDE));
            due(1, x.seed(0));
        }
    }

    private static void dummiesAheadOfAll() {
        says("ahead of all D DUMMIES come, each to the RECEIVER that THE DRAW, changed for it, tells: x left over by 8");
        for (int d = 0; d <= 3; d++) {
            MixRounds x = mix(BATCH, 1, 0, d);
            due(1 + d, x.come(0, 0));
            due(1 + d, x.count(LETTERS));
            due(d, x.round(0, 5));
            for (int k = 1; k <= d; k++) {
                due(DUMMY, x.letter(k, 0));
                due(changed(1, k) / 65536 % 8, x.letter(k, 1));
            }
        }
        int[] xs = {0, 7, 8, 15, 16, 32760, 32767};
        int[] to = {0, 7, 0, 7, 0, 0, 7};
        for (int n = 0; n < xs.length; n++) {
            MixRounds x = mix(BATCH, 1, 0, 1);
            x.seed(seedOf(xs[n]));
            x.come(0, 0);
            due(to[n], x.letter(1, 1));
        }
        // Where there is no ROUND none comes.
        due(2, comes(mix(BATCH, 3, 0, 3), 2).count(LETTERS));
        MixRounds x = mix(HALF, 1, 0, 3);
        due(0, x.tick());
        due(0, x.count(LETTERS));
        due(0, x.count(ROUNDS));
    }

    private static void dummiesCountAmongThose() {
        says("they count among those of which all, all but P, or half go OUT");
        for (int d = 0; d <= 3; d++) {
            // Whether there is a ROUND is looked at without them.
            MixRounds x = comes(mix(BATCH, 4, 0, d), 3);
            due(0, x.count(ROUNDS));
            due(4 + d, x.come(1, 1));
            x = comes(mix(POOL, 3, 2, d), 4);
            due(0, x.count(ROUNDS));
            due(3 + d, x.come(1, 1));
            due(2, x.count(INSIDE));
            x = comes(mix(CLOCK, 1, 2, d), 2);
            due(0, x.tick());
            due(0, x.count(ROUNDS));
            x.come(1, 1);
            due(1 + d, x.tick());
            due(2, x.count(INSIDE));
            int[] halves = {1, 1, 2, 2};
            x = comes(mix(HALF, 1, 0, d), 1);
            due(halves[d], x.tick());
            due(1 + d - halves[d], x.count(INSIDE));
        }
        // 12 INSIDE and three DUMMIES: 15 are found, 8 of them go by HALF, 11 by CLOCK with P 4.
        MixRounds x = comes(mix(HALF, 1, 0, 3), 12);
        due(8, x.tick());
        due(15, x.round(0, 0));
        x = comes(mix(CLOCK, 1, 4, 3), 12);
        due(11, x.tick());
        due(15, x.round(0, 0));
        x = comes(mix(CLOCK, 1, 0, 3), 12);
        due(15, x.tick());
        due(BAD, x.out(0, 15, 0));
        due(14, x.letter(x.out(0, 14, 0), 4));
    }

    private static void theDrawIsChangedForEach() {
        says("Then so often as LETTERS are to go OUT THE DRAW is changed");
        for (int d = 0; d <= 3; d++) {
            for (int n = 1; n <= 8; n++) {
                MixRounds x = comes(mix(BATCH, n, 0, d), n);
                due(changed(1, n + 2 * d), x.seed(0));
            }
            MixRounds x = comes(mix(HALF, 1, 0, d), 12);
            int going = x.tick();
            due(changed(1, d + going), x.seed(0));
        }
        // None is to go: it stays as it is.
        due(1, comes(mix(BATCH, 8, 0, 3), 7).seed(0));
    }

    private static void whichOneGoes() {
        says("the LETTER that stands at x left over by how many are INSIDE then (0 on) goes OUT");
        int[] xs = {0, 1, 10, 11, 12, 13, 23, 24, 32767};
        int[] gone = {0, 1, 10, 11, 0, 1, 11, 0, 32767 % 12};
        for (int n = 0; n < xs.length; n++) {
            MixRounds x = comes(mix(HALF, 1, 0, 0), 12);
            x.seed(seedOf(xs[n]));
            x.tick();
            due(gone[n], x.out(0, 0, 0));
        }
        // By a telling of its own: those INSIDE stand in a row, one is taken out of it, the rest closes up.
        for (int d = 0; d <= 3; d++) {
            MixRounds x = comes(mix(CLOCK, 1, 0, d), 12);
            x.tick();
            java.util.List<Integer> row = new java.util.ArrayList<>();
            for (int i = 0; i < 12 + d; i++) {
                row.add(i);
            }
            for (int k = 0; k < 12 + d; k++) {
                int at = changed(1, d + k + 1) / 65536 % row.size();
                due(row.remove(at), x.out(0, k, 0));
            }
        }
    }

    private static void outsAreNumbered() {
        says("OUTS of a ROUND are numbered as they went, 0 on");
        MixRounds x = comes(new MixRounds(), 3);
        // x is 16838, 5758, 10113: 2 of three, 0 of two, the last.
        int[] went = {2, 0, 1};
        for (int k = 0; k < 3; k++) {
            due(went[k], x.out(0, k, 0));
            due(k, x.letter(went[k], 4));
            due(0, x.letter(went[k], 3));
        }
        due(BAD, x.out(0, 3, 0));
        due(BAD, x.out(0, -1, 0));
    }

    private static void aNumberOf31Bits() {
        says("THE DRAW is a number of 31 bits (1 at first)");
        MixRounds x = new MixRounds();
        due(1, x.seed(HIGH));
        due(HIGH, x.seed(0));
        due(0, x.seed(0));
        due(BAD, x.seed(-1));
        due(0, x.seed(1));
        says("changed, it is the lowest 31 bits of itself times 1103515245 and 12345 more");
        int[] seeds = {0, 1, 2, 1073741824, HIGH - 1, HIGH};
        for (int seed : seeds) {
            x = new MixRounds();
            x.seed(seed);
            x.drift(1);
            due((seed * 1103515245L + 12345L) & 0x7fffffffL, x.seed(0));
        }
        x = new MixRounds();
        x.seed(HIGH);
        x.drift(1);
        due(1043980748, x.seed(0));
        // It may become 0 and the greatest.
        for (int next : new int[] {0, HIGH}) {
            x = new MixRounds();
            x.seed(ahead(next));
            x.drift(1);
            due(next, x.seed(0));
        }
    }

    private static void byCut() {
        says("x is it by 65536 (cut) then");
        int[] draws = {0, 65535, 65536, 131071, 7 * 65536, 8 * 65536 - 1, 8 * 65536, HIGH};
        int[] to = {0, 0, 1, 1, 7, 7, 0, 7};
        for (int n = 0; n < draws.length; n++) {
            MixRounds x = mix(BATCH, 1, 0, 1);
            x.seed(ahead(draws[n]));
            x.come(0, 0);
            due(to[n], x.letter(1, 1));
        }
    }

    private static void fullWithLetters() {
        says("THE BOOK is full with 76 LETTERS or more");
        due(75, letters(75).count(LETTERS));
        due(0, letters(75).come(0, 0));
        due(3, letters(75).tick());
        due(76, letters(76).count(LETTERS));
        due(FULL, letters(76).come(0, 0));
        due(FULL, letters(76).tick());
        for (int d = 1; d <= 3; d++) {
            // By DUMMIES alone, with a TICK: 76, 77, 78.
            MixRounds x = letters(75);
            x.tell(D, d);
            due(3 + d, x.tick());
            due(75 + d, x.count(LETTERS));
            due(FULL, x.come(0, 0));
            due(FULL, x.tick());
            // The 76th may bring some: 77, 78, 79.
            x = letters(75);
            x.tell(D, d);
            x.tell(POLICY, BATCH);
            due(4 + d, x.come(0, 0));
            due(76 + d, x.count(LETTERS));
            due(FULL, x.come(0, 0));
            due(FULL, x.tick());
        }
        // One less, as a TICK adds none.
        MixRounds x = letters(74);
        x.tell(D, 1);
        due(3, x.tick());
        due(75, x.count(LETTERS));
        due(0, x.come(0, 0));
        due(FULL, x.come(0, 0));
    }

    private static void fullWithRounds() {
        says("or 12 ROUNDS: then no LETTER comes, no TICK is heard");
        due(1, rounds(11).come(0, 0));
        due(0, rounds(11).tick());
        due(FULL, rounds(12).come(0, 0));
        due(FULL, rounds(12).come(OWN, 0));
        due(FULL, rounds(12).tick());
        for (int policy = BATCH; policy <= HALF; policy++) {
            MixRounds x = rounds(12);
            x.tell(POLICY, policy);
            due(FULL, x.come(0, 0));
            due(FULL, x.tick());
        }
        MixRounds x = mix(HALF, 1, 0, 1);
        x.come(0, 0);
        for (int r = 0; r < 12; r++) {
            due(1, x.tick());
        }
        due(1, x.count(INSIDE));
        due(FULL, x.tick());
        due(FULL, x.come(0, 0));
        // Begun anew, or UNDONE, it is full no more.
        x = rounds(12);
        x.undo();
        due(1, x.come(0, 0));
        x.begin();
        due(0, x.tick());
        due(1, x.come(0, 0));
        due(1, x.count(ROUNDS));
        x = letters(76);
        x.undo();
        due(3, x.tick());
        x.begin();
        due(0, x.come(0, 0));
    }

    private static void noMoreThanTwelve() {
        says("No more than 12 are INSIDE when one comes: the 13th is refused");
        MixRounds x = waiting(11);
        due(0, x.come(0, 0));
        due(12, x.count(INSIDE));
        due(FULL, x.come(0, 0));
        due(FULL, x.come(OWN, 0));
        due(12, x.count(INSIDE));
        // A TICK is heard all the same, and DUMMIES may be the 13th to the 15th.
        x.tell(D, 3);
        due(15, x.tick());
        due(15, x.round(0, 0));
        due(0, x.come(0, 0));
        // One of them gone, one may come.
        x = waiting(12);
        x.tell(P, 4);
        due(8, x.tick());
        comes(x, 8);
        due(FULL, x.come(0, 0));
        x = comes(mix(HALF, 1, 0, 0), 12);
        due(6, x.tick());
        comes(x, 5);
        due(0, x.come(0, 0));
        due(FULL, x.come(0, 0));
        // By POOL the 12th brings the ROUND.
        x = comes(mix(POOL, 8, 4, 0), 11);
        due(8, x.come(0, 0));
        due(0, x.come(0, 0));
    }

    public static void main(String[] args) {
        lettersAreNumbered();
        senders();
        receivers();
        insideInOrder();
        roundsAreNumbered();
        whatIsTold();
        batch();
        pool();
        clock();
        half();
        theOtherHappening();
        dummiesAheadOfAll();
        dummiesCountAmongThose();
        theDrawIsChangedForEach();
        whichOneGoes();
        outsAreNumbered();
        aNumberOf31Bits();
        byCut();
        fullWithLetters();
        fullWithRounds();
        noMoreThanTwelve();
        end();
    }
}
