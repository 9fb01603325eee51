/** The boundary cases of the document's part 2: OWN ones, a LEFT of 0, STAYS where there is no ROUND, BLEND. */
public final class EdgesOfTheWatcher extends EdgeTest {

    /** HALF: a letter from 0 and an OWN one, of which the OWN one goes, if told so, else the other. */
    private static MixRounds oneOfTwo(boolean own) {
        MixRounds x = mix(HALF, 1, 0, 0);
        x.come(0, 0);
        x.come(OWN, 1);
        x.seed(seedOf(own ? 1 : 0));
        x.tick();
        return x;
    }

    /** BATCH, T being 1: a round for each sender. */
    private static MixRounds alone(int... senders) {
        MixRounds x = mix(BATCH, 1, 0, 0);
        for (int u : senders) {
            x.come(u, 3);
        }
        return x;
    }

    private static void lettersOfARound() {
        says("Of ROUND q: M LETTERS that are not OWN were INSIDE, its DUMMIES, too, J of them went OUT");
        // OWN ones alone: M and J are 0.
        MixRounds x = alone(OWN);
        due(1, x.round(0, 2));
        due(0, x.round(0, 3));
        due(0, x.round(0, 4));
        x = alone(5);
        due(0, x.round(0, 2));
        due(1, x.round(0, 3));
        due(1, x.round(0, 4));
        x = oneOfTwo(true);
        due(1, x.round(0, 2));
        due(1, x.round(0, 3));
        due(0, x.round(0, 4));
        x = oneOfTwo(false);
        due(0, x.round(0, 2));
        due(1, x.round(0, 3));
        due(1, x.round(0, 4));
        // An OWN one and three DUMMIES: M is 3.
        x = mix(BATCH, 1, 0, 3);
        x.come(OWN, 0);
        due(1, x.round(0, 2));
        due(3, x.round(0, 3));
        due(3, x.round(0, 4));
        // Those that stay INSIDE are of the next ROUND, too: an OWN one that stayed is not of its M.
        x = oneOfTwo(false);
        x.come(1, 1);
        x.seed(seedOf(1));
        x.tick();
        due(2, x.round(1, 0));
        due(1, x.round(1, 3));
        due(1, x.round(1, 4));
    }

    private static void nothingOfReceivers() {
        says("makes nothing of RECEIVERS");
        // The same senders and draws, all to one RECEIVER or each to another: a like CHANCE for each.
        MixRounds one = pool(0);
        MixRounds many = pool(1);
        due(3, one.count(ROUNDS));
        for (int r = 0; r < 3; r++) {
            for (int i = 0; i < one.count(LETTERS); i++) {
                chance(one.chance(r, 0, i, 0), one.chance(r, 0, i, 1), many, r, 0, i);
            }
            due(one.out(r, 1, 2), many.out(r, 1, 2));
            due(one.out(r, 1, 3), many.out(r, 1, 3));
        }
        // A letter that alone goes to its RECEIVER is not known by that: 1 by 3 for each of three.
        MixRounds x = comes(mix(BATCH, 3, 0, 0), 3);
        for (int k = 0; k < 3; k++) {
            for (int i = 0; i < 3; i++) {
                chance(1, 3, x, 0, k, i);
            }
        }
    }

    /** POOL with a DUMMY in each of three rounds; receivers that step so far from letter to letter. */
    private static MixRounds pool(int step) {
        MixRounds x = mix(POOL, 2, 2, 1);
        for (int k = 0; k < 8; k++) {
            x.come(k % 3, k * step % 8);
        }
        return x;
    }

    private static void whereDummiesGo() {
        says("DUMMIES, too, but not where DUMMIES go");
        // A letter to 3 and a DUMMY to 6, which is known as one that came: each OUT is each of them by 1 by 2.
        MixRounds x = mix(BATCH, 1, 0, 1);
        x.seed(seedOf(6));
        due(2, x.come(0, 3));
        due(6, x.letter(1, 1));
        for (int k = 0; k < 2; k++) {
            sender(1, 2, x, 0, k, 0);
            sender(1, 2, x, 0, k, DUMMY);
            due(2, x.out(0, k, 2));
        }
        expected(1, 2, x, 0, 3);
        expected(1, 2, x, 0, 6);
        expected(1, 2, x, DUMMY, 3);
        expected(1, 2, x, DUMMY, 6);
        expected(0, 1, x, DUMMY, 5);
    }

    private static void leftOfARound() {
        says("LEFT of q: M less J by M");
        // None of M went, all of M went, two of three, five of six with their DUMMIES.
        stays(1, 1, oneOfTwo(true), 0);
        stays(0, 1, oneOfTwo(false), 0);
        stays(1, 3, comes(mix(POOL, 2, 1, 0), 3), 0);
        MixRounds x = comes(mix(POOL, 2, 1, 3), 3);
        stays(1, 6, x, 0);
        stays(1, 6, x, 5);
    }

    private static void ownOut() {
        says("if that OUT is OWN: 1, if i is it, else 0");
        MixRounds x = alone(OWN, OWN, 4);
        chance(1, 1, x, 0, 0, 0);
        chance(0, 1, x, 0, 0, 1);
        chance(0, 1, x, 0, 0, 2);
        chance(0, 1, x, 1, 0, 0);
        chance(1, 1, x, 1, 0, 1);
        due(1, x.out(0, 0, 2));
        due(0, x.out(0, 0, 3));
        due(1, x.out(1, 0, 2));
        due(1, x.out(1, 0, 3));
        // Others that were INSIDE with it, too, have none.
        x = oneOfTwo(true);
        chance(1, 1, x, 0, 0, 1);
        chance(0, 1, x, 0, 0, 0);
        sender(1, 1, x, 0, 0, OWN);
        sender(0, 1, x, 0, 0, 0);
        due(1, x.out(0, 0, 2));
        due(1, x.out(0, 0, 3));
    }

    private static void zeroForOwnOnes() {
        says("Else 0 for OWN ones");
        MixRounds x = oneOfTwo(false);
        chance(1, 1, x, 0, 0, 0);
        chance(0, 1, x, 0, 0, 1);
        sender(0, 1, x, 0, 0, OWN);
        due(1, x.out(0, 0, 2));
        due(0, x.out(0, 0, 3));
        // BATCH of three, OWN at each place: 1 by 2 for both others.
        for (int place = 0; place < 3; place++) {
            x = mix(BATCH, 3, 0, 0);
            for (int i = 0; i < 3; i++) {
                x.come(i == place ? OWN : i, 0);
            }
            int k = x.letter(place, 4) == 0 ? 1 : 0;
            for (int i = 0; i < 3; i++) {
                chance(i == place ? 0 : 1, i == place ? 1 : 2, x, 0, k, i);
            }
            due(2, x.out(0, k, 2));
            due(place == 0 ? 1 : 0, x.out(0, k, 3));
        }
    }

    private static void cameBehind() {
        says("for those that came behind ROUND r");
        // POOL: the third brings ROUND 0, the fourth comes behind it, the fifth brings ROUND 1, the sixth waits.
        MixRounds x = comes(mix(POOL, 2, 1, 0), 6);
        due(2, x.count(ROUNDS));
        chance(1, 3, x, 0, 0, 2);
        chance(0, 1, x, 0, 0, 3);
        chance(1, 3, x, 1, 0, 3);
        chance(1, 3, x, 1, 0, 4);
        chance(0, 1, x, 1, 0, 5);
        due(BAD, x.chance(1, 0, 6, 0));
        due(3, x.out(0, 1, 2));
        due(5, x.out(1, 1, 2));
        // DUMMIES of ROUND 0 are of it, those of ROUND 1 came behind.
        x = comes(mix(BATCH, 1, 0, 1), 2);
        chance(1, 2, x, 0, 0, 1);
        chance(0, 1, x, 0, 0, 2);
        chance(0, 1, x, 0, 0, 3);
        chance(1, 2, x, 1, 0, 3);
    }

    private static void leftMultiplied() {
        says("LEFT of ROUND q, for each q from the first ROUND that found it INSIDE on, below r, all multiplied, by M of r");
        // POOL: M is 3, J is 2, LEFT is 1 by 3 in each ROUND.
        MixRounds x = comes(mix(POOL, 2, 1, 0), 7);
        due(3, x.count(ROUNDS));
        chance(1, 3, x, 0, 0, 0);
        chance(1, 9, x, 1, 0, 0);
        chance(1, 27, x, 2, 0, 0);
        chance(1, 27, x, 2, 0, 2);
        chance(1, 9, x, 2, 0, 3);
        chance(1, 9, x, 2, 0, 4);
        chance(1, 3, x, 2, 0, 5);
        due(5, x.out(2, 0, 3));
        // M of r alone, if r is the first that found it: M differs from ROUND to ROUND.
        x = comes(mix(HALF, 1, 0, 0), 5);
        x.tick();
        comes(x, 2);
        x.tick();
        chance(1, 5, x, 0, 0, 4);
        chance(1, 10, x, 1, 0, 4);
        chance(1, 4, x, 1, 0, 5);
        // A ROUND in which OWN ones alone went has a LEFT of 1: of like ones the least number.
        x = oneOfTwo(true);
        x.come(1, 1);
        x.tick();
        chance(1, 2, x, 1, 0, 0);
        chance(1, 2, x, 1, 0, 2);
        due(2, x.out(1, 0, 2));
        due(0, x.out(1, 0, 3));
    }

    private static void aLeftOfNothing() {
        says("(If a LEFT is 0, it's 0.)");
        MixRounds x = alone(1, 2);
        chance(0, 1, x, 1, 0, 0);
        chance(1, 1, x, 1, 0, 1);
        sender(0, 1, x, 1, 0, 1);
        due(1, x.out(1, 0, 2));
        due(1, x.out(1, 0, 3));
        expected(1, 1, x, 1, 3);
        // A ROUND of OWN ones in between, or ahead: its M is 0, and it divides nothing.
        x = alone(1, OWN, 2);
        chance(0, 1, x, 2, 0, 0);
        chance(0, 1, x, 2, 0, 1);
        chance(1, 1, x, 2, 0, 2);
        sender(0, 1, x, 2, 0, 1);
        sender(1, 1, x, 2, 0, 2);
        stays(0, 1, x, 0);
        stays(0, 1, x, 2);
        expected(1, 1, x, 1, 3);
        expected(1, 1, x, 2, 3);
        expected(1, 1, x, OWN, 3);
        due(1, x.out(2, 0, 2));
        due(2, x.out(2, 0, 3));
        x = alone(OWN, 2);
        chance(1, 1, x, 1, 0, 1);
        stays(0, 1, x, 1);
        // None is left of the first three, though more came and stay.
        x = comes(mix(BATCH, 3, 0, 0), 3);
        x.tell(POLICY, HALF);
        comes(x, 2);
        x.tick();
        chance(0, 1, x, 1, 0, 0);
        chance(1, 2, x, 1, 0, 3);
        due(2, x.out(1, 0, 2));
        due(3, x.out(1, 0, 3));
    }

    private static void ofASender() {
        says("Of a SENDER: that of all its LETTERS together");
        MixRounds x = mix(POOL, 3, 1, 1);
        x.come(6, 0);
        x.come(7, 0);
        x.come(7, 0);
        x.come(0, 0);
        // M is 5, a DUMMY among them.
        sender(1, 5, x, 0, 0, 6);
        sender(2, 5, x, 0, 0, 7);
        sender(1, 5, x, 0, 0, 0);
        sender(1, 5, x, 0, 0, DUMMY);
        sender(0, 1, x, 0, 0, OWN);
        sender(0, 1, x, 0, 0, 1);
        due(BAD, x.sender(0, 0, 10, 0));
        due(BAD, x.sender(0, 0, -1, 0));
        // One that came behind the ROUND adds nothing.
        x.come(6, 0);
        sender(1, 5, x, 0, 0, 6);
        // ROUND 1: LEFT is 1 by 5, M is 5: two by 25, then one more of 5.
        x.come(7, 0);
        x.come(7, 0);
        sender(12, 25, x, 1, 0, 7);
        sender(6, 25, x, 1, 0, DUMMY);
        // Later ROUNDS change nothing of an earlier one.
        sender(2, 5, x, 0, 0, 7);
        chance(1, 5, x, 0, 0, 0);
        // An OUT that is OWN: all of it is of 9.
        x = alone(OWN);
        for (int u = 0; u <= 9; u++) {
            sender(u == OWN ? 1 : 0, 1, x, 0, 0, u);
        }
    }

    private static void staying() {
        says("STAYS of a LETTER that is not OWN: LEFT of all ROUNDS from the first that found it INSIDE on, multiplied (1, if there is none)");
        MixRounds x = mix(HALF, 1, 0, 0);
        comes(x, 3);
        stays(1, 1, x, 0);
        x.tick();
        stays(1, 3, x, 0);
        stays(1, 3, x, 2);
        x.come(0, 0);
        stays(1, 3, x, 0);
        stays(1, 1, x, 3);
        x.tick();
        // M is 2, J is 1.
        stays(1, 6, x, 0);
        stays(1, 2, x, 3);
        x.tick();
        stays(0, 1, x, 0);
        stays(0, 1, x, 3);
        // Whether it has really gone counts for nothing: all of the first three are alike.
        x = comes(mix(HALF, 1, 0, 0), 3);
        x.tick();
        for (int i = 0; i < 3; i++) {
            stays(1, 3, x, i);
        }
        // A DUMMY has it, too; an OWN one has none.
        x = comes(mix(CLOCK, 1, 1, 1), 2);
        x.tick();
        stays(1, 3, x, 2);
        due(NOT, oneOfTwo(true).stays(1, 0));
        due(NOT, oneOfTwo(false).stays(1, 0));
        stays(1, 1, oneOfTwo(true), 0);
        stays(0, 1, oneOfTwo(false), 0);
        // OWN ones alone, behind a ROUND after which none was left, or ahead of the LETTER.
        stays(0, 1, alone(1, OWN), 0);
        stays(0, 1, alone(OWN, 1), 1);
        x = alone(OWN);
        x.tell(POLICY, CLOCK);
        x.come(1, 1);
        stays(1, 1, x, 1);
    }

    private static void expecting() {
        says("EXPECTED from a SENDER to a RECEIVER: the CHANCES of the SENDER of all OUTS to the RECEIVER together");
        MixRounds x = mix(BATCH, 2, 0, 0);
        expected(0, 1, x, 0, 3);
        x.come(0, 3);
        // INSIDE it counts for nothing.
        expected(0, 1, x, 0, 3);
        x.come(1, 4);
        expected(1, 2, x, 0, 3);
        expected(1, 2, x, 0, 4);
        expected(1, 2, x, 1, 3);
        expected(0, 1, x, 0, 5);
        expected(0, 1, x, 2, 3);
        expected(0, 1, x, DUMMY, 3);
        expected(0, 1, x, OWN, 3);
        x.come(0, 3);
        x.come(OWN, 3);
        expected(3, 2, x, 0, 3);
        expected(1, 2, x, 1, 3);
        expected(1, 1, x, OWN, 3);
        // To the least and the greatest RECEIVER, from the first and the last SENDER.
        x = mix(BATCH, 1, 0, 0);
        x.come(0, 7);
        x.come(7, 0);
        x.come(OWN, 7);
        expected(1, 1, x, 0, 7);
        expected(0, 1, x, 0, 0);
        expected(1, 1, x, 7, 0);
        expected(1, 1, x, OWN, 7);
        due(BAD, x.expected(0, 8, 0));
        due(BAD, x.expected(0, -1, 0));
        due(BAD, x.expected(10, 7, 0));
        due(BAD, x.expected(-1, 7, 0));
        // A DUMMY to 6 (x is 16838) and a LETTER to 6: each is either.
        x = mix(BATCH, 1, 0, 1);
        x.come(2, 6);
        expected(1, 1, x, DUMMY, 6);
        expected(1, 1, x, 2, 6);
        // A LETTER that stays in one ROUND is of the next, too: 1 by 3 and 1 by 3 of 1 by 3, for two OUTS each.
        x = mix(POOL, 2, 1, 0);
        for (int k = 0; k < 5; k++) {
            x.come(k == 0 ? 5 : 6, 2);
        }
        expected(8, 9, x, 5, 2);
        expected(28, 9, x, 6, 2);
    }

    private static void blending() {
        says("by BATCH, D being 0: how many OWN LETTERS must come till none is INSIDE");
        due(NONE, mix(BATCH, 3, 0, 1).blend());
        due(2, mix(BATCH, 3, 4, 0).blend());
        for (int policy = POOL; policy <= HALF; policy++) {
            due(NONE, mix(policy, 3, 0, 0).blend());
        }
        says("(0, if none is; else T less those INSIDE, 1 at least), and T less 1 together");
        for (int t = 1; t <= 8; t++) {
            due(t - 1, mix(BATCH, t, 0, 0).blend());
            due(t - 1, comes(mix(BATCH, t, 0, 0), t).blend());
            for (int n = 1; n <= 12; n++) {
                MixRounds x = waiting(n);
                x.tell(POLICY, BATCH);
                x.tell(T, t);
                int flushing = t - n > 1 ? t - n : 1;
                due(flushing + t - 1, x.blend());
            }
        }
        // OWN ones INSIDE are INSIDE, too.
        MixRounds x = new MixRounds();
        x.come(OWN, 0);
        due(4, x.blend());
        // It is so: by so many the LETTER behind them comes out alone.
        x = comes(mix(BATCH, 5, 0, 0), 2);
        int own = x.blend();
        due(7, own);
        for (int k = 0; k < 3; k++) {
            x.come(OWN, 0);
        }
        due(0, x.count(INSIDE));
        x.come(3, 3);
        for (int k = 3; k < own; k++) {
            x.come(OWN, 0);
        }
        due(0, x.count(INSIDE));
        due(1, x.round(1, 3));
    }

    public static void main(String[] args) {
        nothingOfReceivers();
        whereDummiesGo();
        lettersOfARound();
        leftOfARound();
        ownOut();
        zeroForOwnOnes();
        cameBehind();
        leftMultiplied();
        aLeftOfNothing();
        ofASender();
        staying();
        expecting();
        blending();
        end();
    }
}
