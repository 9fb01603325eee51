/** The boundary cases of the document's part 3: FITS, a TEXT, what is UNDONE, a DRIFT; and of an IMAGE. */
public final class EdgesOfTheRest extends EdgeTest {

    private static void pairsOfARow() {
        says("a row tells n pairs (1 .. 8)");
        MixRounds x = new MixRounds();
        x.sheet(0, 0, 24);
        due(BAD, x.fits(0, 0, 0, 0));
        due(15, x.fits(0, 0, 0, 1));
        due(15, x.fits(0, 0, 0, 8));
        due(BAD, x.fits(0, 0, 0, 9));
        due(BAD, x.fits(0, 0, 0, -1));
        due(BAD, x.fits(0, 0, 0, LOW));
        due(BAD, x.fits(0, 0, 0, HIGH));
        // Each of the n is looked at, and no item behind them.
        x.item(0, 0, 15, 1);
        due(15, x.fits(0, 0, 0, 7));
        due(0, x.fits(0, 0, 0, 8));
        x.item(0, 0, 15, 0);
        x.item(0, 0, 16, 99);
        due(15, x.fits(0, 0, 0, 8));
        due(NOT, x.fits(0, 0, 2, 8));
    }

    private static void numbersOfAPair() {
        says("so many LETTERS (0 .. 9) come, one behind the other");
        MixRounds x = mix(BATCH, 1, 0, 0);
        due(NOT, fitting(x, -1, 0));
        due(15, fitting(x, 0, 0));
        due(7, fitting(x, 9, 9));
        due(NOT, fitting(x, 10, 10));
        due(NOT, fitting(x, 0, 0, 10, 0));
        due(NOT, fitting(x, 0, 0, -1, 0));
        // One behind the other: of 9 by T 4 two are 8, one is left for the next.
        x.tell(T, 4);
        due(3, fitting(x, 9, 8, 3, 4));
        due(0, fitting(x, 9, 8, 2, 4));
        says("so many (0 .. 40) go OUT by just these and it (DUMMIES, too)");
        x = mix(BATCH, 1, 0, 3);
        due(NOT, fitting(x, 9, -1));
        due(0, fitting(x, 9, 0));
        due(0, fitting(x, 9, 35));
        due(3, fitting(x, 9, 36));
        due(0, fitting(x, 9, 37));
        due(0, fitting(x, 9, 40));
        due(NOT, fitting(x, 9, 41));
        due(NOT, fitting(x, 0, 0, 9, 41));
        due(4, fitting(x, 9, 12));
        due(8, fitting(x, 9, 6));
        // By just these: what went by the pair ahead is not told again.
        x = mix(BATCH, 3, 0, 0);
        due(1, fitting(x, 4, 3, 2, 3) & 1);
        due(0, fitting(x, 4, 3, 2, 6) & 1);
        // Whichever of the items is no such number: not only the first one.
        x = mix(BATCH, 1, 0, 0);
        for (int at = 0; at < 16; at++) {
            long[] items = new long[16];
            items[at] = at % 2 == 0 ? 10 : 41;
            due(NOT, fitting(x, items));
            items[at] = -1;
            due(NOT, fitting(x, items));
            items[at] = at % 2 == 0 ? 9 : 40;
            due(0, fitting(x, items));
        }
    }

    private static void theTickOfAPair() {
        says("then there's a TICK");
        MixRounds x = mix(BATCH, 8, 2, 0);
        // CLOCK, P being 2: of 2 none, of 3 one.
        due(7, fitting(x, 2, 0));
        due(4, fitting(x, 2, 0, 1, 1));
        due(7, fitting(x, 2, 0, 0, 0));
        due(4, fitting(x, 3, 1, 0, 0));
        // HALF: at each TICK as long as any are INSIDE.
        due(8, fitting(x, 5, 3, 0, 1, 0, 1, 0, 0));
        due(0, fitting(x, 5, 3, 0, 1, 0, 1, 0, 1));
    }

    private static void fromNoneInside() {
        says("by T, P, D as they are, from none INSIDE on, whatever is drawn");
        for (int seed = 0; seed < 5; seed++) {
            for (int n = 0; n <= 12; n += 6) {
                MixRounds x = waiting(n);
                x.tell(P, 1);
                x.seed(seed);
                due(1, fitting(x, 3, 3));
                due(7, fitting(x, 4, 3));
                due(8, fitting(x, 4, 2));
                due(seed, x.seed(1));
            }
        }
        // By other T, P, D others fit.
        due(15, fitting(mix(BATCH, 2, 1, 0), 3, 2));
        due(12, fitting(mix(BATCH, 3, 1, 0), 3, 2));
        due(7, fitting(mix(CLOCK, 3, 0, 0), 3, 3));
        due(4, fitting(mix(CLOCK, 4, 0, 0), 3, 3));
        due(1, fitting(mix(CLOCK, 3, 1, 0), 3, 3));
        due(7, fitting(mix(CLOCK, 2, 1, 1), 3, 3));
        due(4, fitting(mix(CLOCK, 3, 1, 1), 3, 3));
        // D adds none where there is no ROUND.
        due(15, fitting(mix(HALF, 3, 1, 3), 0, 0));
        due(7, fitting(mix(HALF, 3, 1, 3), 1, 0));
    }

    private static void moreThanTwelve() {
        says("not by one by which more than 12 would be INSIDE as one comes");
        // CLOCK, P being 4: 9 less 5, and 8 more are 12; with 9 more there would be 13.
        MixRounds x = mix(BATCH, 8, 4, 0);
        due(4, fitting(x, 9, 5, 8, 8));
        due(0, fitting(x, 9, 5, 9, 9));
        // HALF: 9 less 5, 8 more are 12.
        due(8, fitting(x, 9, 5, 8, 6));
        due(0, fitting(x, 9, 5, 9, 7));
        // POOL: the 12th brings a ROUND, so another may come.
        due(2, fitting(x, 9, 0, 3, 8));
        due(2, fitting(x, 9, 0, 4, 8));
        // DUMMIES may be more: 12 and 3 are halved to 8.
        x = mix(BATCH, 8, 4, 3);
        due(8, fitting(x, 9, 6, 6, 8));
        due(0, fitting(x, 9, 6, 7, 8));
        due(2, fitting(x, 9, 0, 3, 11));
        due(4, fitting(x, 9, 8, 8, 11));
        due(0, fitting(x, 9, 8, 9, 12));
        // It counts in the last pair, and in one ahead of it.
        due(0, fitting(mix(BATCH, 8, 4, 0), 9, 5, 9, 9, 0, 0));
    }

    private static void limitsOfTheBook() {
        says("(THE BOOK's limits count for nothing.)");
        // 72 ROUNDS; 72 LETTERS and 216 DUMMIES.
        MixRounds x = mix(BATCH, 1, 0, 0);
        due(7, fitting(x, 9, 9, 9, 9, 9, 9, 9, 9, 9, 9, 9, 9, 9, 9, 9, 9));
        due(3, fitting(x, 9, 9, 3, 3) & 3);
        x = mix(BATCH, 1, 0, 3);
        due(3, fitting(x, 9, 36, 9, 36, 9, 36, 9, 36, 9, 36, 9, 36, 9, 36, 9, 36));
        // THE BOOK being full.
        due(1, fitting(rounds(12), 1, 1) & 1);
        due(4, fitting(letters(76), 9, 9) & 4);
        due(1, fitting(letters(76), 3, 3) & 1);
    }

    private static void fitsChangesNothing() {
        says("FITS by 2 n items of a SHEET taken as a row of a LANE, from item i on");
        alike(() -> row(waiting(3), 0, 1, 9, 9, 9, 9), () -> {
            MixRounds x = row(waiting(3), 0, 1, 9, 9, 9, 9);
            x.fits(0, 1, 0, 2);
            return x;
        });
        MixRounds x = row(mix(BATCH, 1, 0, 0), 2, 3, 5, 4, 4, 5);
        due(0, x.fits(2, 3, 0, 1));
        due(7, x.fits(2, 3, 1, 1));
        due(0, x.fits(2, 3, 2, 1));
        due(INDEX, x.fits(2, 3, 3, 1));
        due(INDEX, x.fits(2, 3, 1, 2));
        due(INDEX, x.fits(2, 3, -1, 1));
        due(INDEX, x.fits(2, 3, HIGH, 8));
        due(INDEX, x.fits(2, 3, LOW, 8));
    }

    private static void eventsOfAText() {
        says("A TEXT: EVENTS, one behind the other, one at least");
        due(-20, new MixRounds().read());
        due(1, reads(new MixRounds(), "."));
        due(1, reads(new MixRounds(), "0>0"));
        due(90, reads(new MixRounds(), ".".repeat(90)));
        due(FULL, typed(new MixRounds(), ".".repeat(90)).type('.'));
        MixRounds x = mix(BATCH, 3, 0, 0);
        due(30, reads(x, "0>1".repeat(30)));
        due(30, x.count(LETTERS));
        due(10, x.count(ROUNDS));
        says("a SENDER (a figure 0 .. 7) or ! (OWN), then > , a RECEIVER (a figure 0 .. 7)");
        x = new MixRounds();
        due(-20, reads(x, "/>0"));
        due(1, reads(x, "0>7"));
        due(1, reads(x, "7>0"));
        due(-20, reads(x, "8>0"));
        due(-20, reads(x, "9>0"));
        due(1, reads(x, "!>0"));
        due(-20, reads(x, "\">0"));
        due(-22, reads(x, "0>/"));
        due(-22, reads(x, "0>8"));
        due(-22, reads(x, "0>!"));
        due(-22, reads(x, "!>9"));
        due(-21, reads(x, "0=0"));
        due(-21, reads(x, "0?0"));
        due(-21, reads(x, "00"));
        due(-21, reads(x, "!."));
        due(-20, reads(x, ">0"));
        due(-20, reads(x, "-"));
        due(-20, reads(x, "/"));
        due(3, x.count(LETTERS));
        int[] from = {0, 7, OWN};
        int[] to = {7, 0, 0};
        for (int i = 0; i < 3; i++) {
            due(from[i], x.letter(i, 0));
            due(to[i], x.letter(i, 1));
        }
        says(". : a TICK");
        x = comes(mix(CLOCK, 1, 0, 0), 2);
        due(1, reads(x, "."));
        due(1, x.count(ROUNDS));
        due(3, reads(x, "1>1.."));
        due(2, x.count(ROUNDS));
    }

    private static void asFarAsNoneIsRefused() {
        says("They are done one behind the other, as far as none is refused");
        // The 12th comes, the 13th is refused, the TICK behind it is not done.
        MixRounds x = mix(CLOCK, 3, 0, 0);
        due(12, reads(x, "0>0".repeat(12)));
        due(12, x.count(LETTERS));
        x = mix(CLOCK, 3, 0, 0);
        due(12, reads(x, "0>0".repeat(13) + ".1>1"));
        due(12, x.count(LETTERS));
        due(0, x.count(ROUNDS));
        // THE BOOK gets full with the 12th ROUND, or the 76th LETTER.
        x = rounds(11);
        due(1, reads(x, "0>0.0>0"));
        due(12, x.count(ROUNDS));
        x = rounds(11);
        due(2, reads(x, ".0>0.0>0"));
        x = letters(75);
        due(1, reads(x, "0>0.0>0"));
        due(76, x.count(LETTERS));
        due(6, x.count(ROUNDS));
        // The first is refused: none is done.
        due(0, reads(rounds(12), "."));
        due(0, reads(rounds(12), "0>0"));
        due(0, reads(waiting(12), "0>0"));
        due(2, reads(waiting(12), ".0>0"));
        // Each as if by a call of its own.
        alike(() -> {
            MixRounds y = mix(HALF, 1, 0, 2);
            y.image();
            reads(y, "0>1 !>2 . 3>4 .");
            return onlyTheLatest(y);
        }, () -> {
            MixRounds y = mix(HALF, 1, 0, 2);
            y.image();
            y.come(0, 1);
            y.come(OWN, 2);
            y.tick();
            y.come(3, 4);
            y.tick();
            return onlyTheLatest(y);
        });
    }

    /** Six more are done, so that what was done ahead is known no more. */
    private static MixRounds onlyTheLatest(MixRounds x) {
        for (int k = 0; k < 6; k++) {
            x.tell(T, 2 + k % 2 * 5);
        }
        return x;
    }

    private static void faults() {
        says("A FAULT is the first letter (behind blanks) that can't stand there (the end: how many letters there are)");
        String[] texts = {"", " ", "  ", "0", "0 ", "0>", "0> ", "0 >  ", "!", "! ", ".0", ".0>", ". . ! ", "x", " x", "  0  x",
            "0>1x", "0>1 x", "0>12", "0>1 2 ", "0>1>", "0 1", "0>>", "..>", ". , .", "0>8>", "   8>0", "0  > !"};
        int[] places = {0, 1, 2, 1, 2, 2, 3, 5, 1, 2, 2, 3, 6, 0, 1, 5,
            3, 4, 4, 6, 3, 2, 2, 2, 2, 2, 3, 5};
        for (int n = 0; n < texts.length; n++) {
            due(-20 - places[n], reads(new MixRounds(), texts[n]));
        }
        // The first and the last place of a full tape, and the end of it.
        due(-20, reads(new MixRounds(), "x" + ".".repeat(89)));
        due(-109, reads(new MixRounds(), ".".repeat(89) + "x"));
        due(-110, reads(new MixRounds(), ".".repeat(89) + "0"));
        due(-110, reads(new MixRounds(), " ".repeat(90)));
        due(1, reads(new MixRounds(), " ".repeat(89) + "."));
        due(1, reads(new MixRounds(), "." + " ".repeat(89)));
        says("then none is done");
        refused(-23, () -> waiting(3), x -> reads(x, "0>1x"));
        refused(-27, () -> waiting(3), x -> reads(x, ".0>1.1>"));
        // A FAULT counts, even if an EVENT ahead of it would be refused.
        refused(-23, () -> waiting(12), x -> reads(x, "0>1x"));
        refused(-21, () -> rounds(12), x -> reads(x, ".x"));
        says("Blanks count for nothing");
        alike(() -> {
            MixRounds x = mix(HALF, 3, 0, 0);
            reads(x, "0>1!>2.");
            return x;
        }, () -> {
            MixRounds x = mix(HALF, 3, 0, 0);
            due(3, reads(x, "   0 >  1 !  > 2   .  "));
            return x;
        });
    }

    private static void eachMayBeUndone() {
        says("UNDONE: the latest of a LETTER come, a TICK heard, POLICY, T, P, D told, THE BOOK begun, of a TEXT, a turn of a DRIFT, is as it had not been");
        comeUndone(x -> x.come(1, 1));
        comeUndone(x -> x.tick());
        comeUndone(x -> x.tell(POLICY, POOL));
        comeUndone(x -> x.tell(T, 8));
        comeUndone(x -> x.tell(P, 4));
        comeUndone(x -> x.tell(D, 3));
        comeUndone(x -> x.begin());
        comeUndone(x -> reads(x, "0>1.2>3"));
        comeUndone(x -> x.drift(1));
        // Of a TICK that is heard and does nothing, too.
        MixRounds x = new MixRounds();
        x.tick();
        due(1, x.count(UNDOABLE));
        due(0, x.undo());
        // What is refused, or asked only, is none of these; nor is THE DRAW told.
        x = comes(mix(BATCH, 3, 0, 0), 2);
        int known = x.count(UNDOABLE);
        x.come(8, 8);
        x.tell(POLICY, BATCH);
        x.tell(T, 9);
        x.type('x');
        x.read();
        x.drift(0);
        x.seed(5);
        x.seed(1);
        x.image();
        x.sheet(0, 0, 4);
        x.fits(0, 0, 0, 1);
        x.count(UNDOABLE);
        due(known, x.count(UNDOABLE));
        due(NOT, new MixRounds().begin());
        due(NONE, new MixRounds().undo());
    }

    /** After it is done and UNDONE all is as if it had not been: with four that are known ahead of it none is lost. */
    private static void comeUndone(java.util.function.ToLongFunction<MixRounds> call) {
        java.util.function.Supplier<MixRounds> made = () -> {
            MixRounds x = mix(HALF, 2, 2, 1);
            comes(x, 3);
            x.tick();
            x.undo();
            x.tick();
            x.undo();
            x.undo();
            return x;
        };
        alike(made, () -> {
            MixRounds x = made.get();
            int known = x.count(UNDOABLE);
            call.applyAsLong(x);
            due(known + 1, x.count(UNDOABLE));
            due(known, x.undo());
            return x;
        });
    }

    private static void sixAreKnown() {
        says("(6 are known, older ones lost)");
        MixRounds x = new MixRounds();
        due(NONE, x.undo());
        for (int k = 1; k <= 8; k++) {
            x.tell(T, k % 2 == 0 ? 3 : 4);
            due(Math.min(k, 6), x.count(UNDOABLE));
        }
        for (int n = 5; n >= 0; n--) {
            due(n, x.undo());
            due(n, x.count(UNDOABLE));
        }
        due(NONE, x.undo());
        // Of 6 letters all may be UNDONE, of 7 the first one stays.
        for (int n = 5; n <= 6; n++) {
            x = comes(mix(CLOCK, 3, 1, 0), n);
            for (int k = 0; k < 6; k++) {
                x.undo();
            }
            due(0, x.count(LETTERS));
            due(n == 5 ? BATCH : CLOCK, x.count(POLICY));
        }
        for (int n = 7; n <= 12; n++) {
            x = comes(mix(CLOCK, 3, 1, 0), n);
            for (int k = 0; k < 6; k++) {
                due(5 - k, x.undo());
            }
            due(n - 6, x.count(LETTERS));
            due(NONE, x.undo());
            due(n - 6, x.count(LETTERS));
        }
        // UNDONE and done again: the newest six are known still.
        x = comes(mix(CLOCK, 3, 1, 0), 8);
        x.undo();
        x.undo();
        x.come(7, 7);
        due(5, x.count(UNDOABLE));
        comes(x, 2);
        due(6, x.count(UNDOABLE));
        for (int k = 0; k < 6; k++) {
            x.undo();
        }
        due(3, x.count(LETTERS));
    }

    private static void whateverWasTold() {
        says("LETTERS, ROUNDS, POLICY, T, P, D, THE DRAW are as ahead of it, whatever was told since");
        MixRounds x = comes(mix(BATCH, 3, 1, 0), 2);
        x.seed(77);
        x.come(5, 5);
        x.seed(99);
        x.undo();
        due(77, x.seed(77));
        due(2, x.count(LETTERS));
        due(2, x.count(INSIDE));
        due(0, x.count(ROUNDS));
        due(NONE, x.letter(0, 3));
        due(NONE, x.letter(0, 4));
        // THE DRAW told behind the latest is lost by UNDOING it, the one told ahead of it is not.
        x = new MixRounds();
        x.tell(T, 4);
        x.seed(12);
        x.undo();
        due(1, x.seed(12));
        x.tell(T, 4);
        x.undo();
        due(12, x.seed(1));
        // THE TAPE and SHEETS are not among them.
        x = new MixRounds();
        x.come(0, 0);
        x.type('.');
        x.sheet(1, 2, 3);
        x.undo();
        due(2, x.type('.'));
        due(3, x.drop(1));
        // Begun anew and UNDONE: all of it is there again.
        alike(() -> begunAnew(false), () -> begunAnew(true));
    }

    private static MixRounds begunAnew(boolean andUndone) {
        MixRounds x = comes(mix(POOL, 8, 1, 3), 33);
        for (int k = 0; k < 5; k++) {
            x.undo();
        }
        if (andUndone) {
            x.begin();
            reads(x, "0>7".repeat(28));
            x.tell(P, 2);
            for (int k = 0; k < 3; k++) {
                x.undo();
            }
        }
        return x;
    }

    private static void turnsOfADrift() {
        says("x left over by 8 is 0: a TICK; else a LETTER comes from SENDER x by 8 (cut) left over by 8 to RECEIVER x by 64 (cut) left over by 8");
        int[] ticks = {0, 8, 16, 64, 512, 32760};
        for (int x : ticks) {
            MixRounds m = comes(mix(HALF, 1, 0, 0), 2);
            m.seed(seedOf(x));
            due(2, m.drift(1));
            due(1, m.count(ROUNDS));
        }
        int[] xs = {1, 7, 9, 63, 65, 71, 449, 511, 513, 32767};
        int[] from = {0, 0, 1, 7, 0, 0, 0, 7, 0, 7};
        int[] to = {0, 0, 0, 0, 1, 1, 7, 7, 0, 7};
        for (int n = 0; n < xs.length; n++) {
            MixRounds m = comes(mix(HALF, 1, 0, 0), 2);
            m.seed(seedOf(xs[n]));
            due(3, m.drift(1));
            due(0, m.count(ROUNDS));
            due(from[n], m.letter(2, 0));
            due(to[n], m.letter(2, 1));
        }
        says("for each turn THE DRAW is changed");
        for (int n = 1; n <= 40; n++) {
            // A full BOOK: nothing else changes THE DRAW.
            MixRounds x = rounds(12);
            x.seed(1);
            due(12, x.drift(n));
            due(changed(1, n), x.seed(0));
        }
        says("(Nothing else, if that is refused.)");
        MixRounds x = waiting(12);
        x.seed(seedOf(1));
        due(12, x.drift(1));
        due(65536, x.seed(1));
        due(12, x.count(INSIDE));
        // A TICK is heard with 12 INSIDE, and refused by a full BOOK.
        x = waiting(12);
        x.seed(seedOf(8));
        due(12, x.drift(1));
        due(1, x.count(ROUNDS));
        x = rounds(12);
        x.tell(POLICY, HALF);
        x.seed(seedOf(8));
        due(12, x.drift(1));
        due(12, x.count(ROUNDS));
        due(8 * 65536, x.seed(1));
        // What is refused in one turn does not end the others: a TICK behind it is heard.
        int seed = 0;
        while (changed(seed, 1) / 65536 % 8 == 0 || changed(seed, 2) / 65536 % 8 != 0) {
            seed++;
        }
        x = waiting(12);
        x.seed(seed);
        due(12, x.drift(2));
        due(1, x.count(ROUNDS));
        due(0, x.count(INSIDE));
    }

    private static void turnsUndone() {
        says("each may be UNDONE, one that changes nothing, too");
        for (int n = 1; n <= 8; n++) {
            MixRounds x = new MixRounds();
            x.drift(n);
            due(Math.min(n, 6), x.count(UNDOABLE));
            x.undo();
            MixRounds y = new MixRounds();
            if (n > 1) {
                y.drift(n - 1);
            }
            due(y.count(LETTERS), x.count(LETTERS));
            due(y.seed(0), x.seed(0));
        }
        MixRounds x = rounds(12);
        for (int k = 0; k < 6; k++) {
            x.undo();
        }
        comes(x, 6);
        x.seed(5);
        for (int k = 0; k < 6; k++) {
            x.drift(1);
        }
        due(6, x.count(UNDOABLE));
        for (int k = 5; k >= 0; k--) {
            due(k, x.undo());
            due(12, x.count(LETTERS));
        }
        due(NONE, x.undo());
        due(5, x.seed(0));
        // By BATCH a TICK changes nothing but THE DRAW.
        x = new MixRounds();
        x.seed(seedOf(8));
        due(0, x.drift(1));
        due(1, x.count(UNDOABLE));
        due(0, x.undo());
        due(seedOf(8), x.seed(0));
    }

    public static void main(String[] args) {
        pairsOfARow();
        numbersOfAPair();
        theTickOfAPair();
        fromNoneInside();
        moreThanTwelve();
        limitsOfTheBook();
        fitsChangesNothing();
        eventsOfAText();
        asFarAsNoneIsRefused();
        faults();
        eachMayBeUndone();
        sixAreKnown();
        whateverWasTold();
        turnsOfADrift();
        turnsUndone();
        end();
    }
}
