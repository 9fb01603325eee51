/** The boundary cases that the document's Terms name: answers below 0 and their order, what is refused, fractions. */
public final class EdgesOfTerms extends EdgeTest {

    private static void badAheadOfAllOthers() {
        says("of several BAD ahead of all others");
        // FULL
        due(BAD, letters(76).come(8, 0));
        due(BAD, letters(76).come(0, 8));
        due(FULL, letters(76).come(7, 7));
        due(BAD, rounds(12).come(-1, 0));
        due(BAD, rounds(12).come(0, -1));
        due(FULL, rounds(12).come(0, 0));
        due(BAD, waiting(12).come(10, 7));
        due(FULL, waiting(12).come(9, 7));
        MixRounds x = typed(new MixRounds(), ".".repeat(90));
        due(BAD, x.type(31));
        due(FULL, x.type(32));
        due(FULL, x.type(126));
        due(BAD, x.type(127));
        // NOT
        x = new MixRounds();
        x.come(OWN, 0);
        due(BAD, x.stays(0, -1));
        due(NOT, x.stays(0, 0));
        due(NOT, x.stays(0, 1));
        due(BAD, x.stays(0, 2));
    }

    private static void badAheadOfSheets() {
        says("of several BAD ahead of all others");
        MixRounds x = rounds(1);
        // NULL: no sheet holds anything.
        due(BAD, x.fits(0, 0, -1, 0));
        due(NULL, x.fits(0, 0, -1, 1));
        due(NULL, x.fits(0, 0, -1, 8));
        due(BAD, x.fits(0, 0, -1, 9));
        due(BAD, x.fits(4, 0, -1, 1));
        due(BAD, x.fits(0, 4, -1, 1));
        due(BAD, x.film(1, 0, 0, -1));
        due(NULL, x.film(0, 0, 0, -1));
        due(BAD, x.film(0, 4, 0, -1));
        due(BAD, x.film(0, 0, 4, -1));
        due(BAD, x.item(4, 0, -1, 0));
        due(BAD, x.item(0, 4, -1, 0));
        due(NULL, x.item(3, 3, -1, 0));
        due(BAD, x.copy(4, -1, 0, -1, -1));
        due(BAD, x.copy(0, -1, 4, -1, -1));
        due(NULL, x.copy(3, -1, 3, -1, -1));
        // SIZE
        due(BAD, x.sheet(4, 3, -1));
        due(BAD, x.sheet(3, 4, -1));
        due(BAD, x.sheet(-1, 3, -1));
        due(BAD, x.sheet(3, -1, -1));
        due(SIZE, x.sheet(3, 3, -1));
        // CAST
        x.sheet(0, 1, 24);
        due(BAD, x.fits(0, 2, 0, 0));
        due(CAST, x.fits(0, 2, 0, 8));
        due(BAD, x.fits(0, 2, 0, 9));
        due(BAD, x.fits(0, 4, 0, 1));
        due(BAD, x.film(1, 0, 2, 0));
        due(CAST, x.film(0, 0, 2, 0));
        due(BAD, x.item(0, 4, 0, 0));
        due(BAD, x.item(0, -1, 0, 0));
        due(CAST, x.item(0, 0, 0, 0));
        // INDEX
        due(BAD, x.fits(0, 1, 24, 0));
        due(INDEX, x.fits(0, 1, 24, 1));
        due(BAD, x.fits(0, 1, 24, 9));
        due(BAD, x.film(1, 0, 1, 24));
        due(INDEX, x.film(0, 0, 1, 24));
        due(BAD, x.copy(0, 25, 4, 0, 0));
        due(INDEX, x.copy(0, 25, 0, 0, 0));
        // NOT
        x.item(0, 1, 0, 10);
        due(NOT, x.fits(0, 1, 0, 8));
        due(BAD, x.fits(0, 1, 0, 9));
        due(BAD, x.fits(0, 1, 0, 0));
    }

    private static void theFirstThatACallNames() {
        says("then the first that a call names");
        MixRounds x = row(rounds(1), 0, 1, 10, 0, 0, 0);
        // fits: NULL; CAST; INDEX; NOT.
        due(NULL, x.fits(1, 1, 9, 1));
        due(CAST, x.fits(0, 2, 9, 1));
        due(CAST, x.fits(0, 2, 0, 1));
        due(INDEX, x.fits(0, 1, 0, 3));
        due(NOT, x.fits(0, 1, 0, 2));
        due(15, x.fits(0, 1, 1, 1));
        // film, item: NULL; CAST; INDEX.
        due(NULL, x.film(0, 1, 1, 9));
        due(CAST, x.film(0, 0, 2, 9));
        due(INDEX, x.film(0, 0, 1, 9));
        due(NULL, x.item(1, 1, 9, 0));
        due(CAST, x.item(0, 2, 9, 0));
        due(INDEX, x.item(0, 1, 9, 0));
        // copy: NULL (either); CAST; INDEX.
        due(NULL, x.copy(0, 9, 1, 0, 1));
        due(NULL, x.copy(1, 0, 0, 9, 1));
        x.sheet(1, 2, 4);
        due(CAST, x.copy(0, 9, 1, 0, 1));
        due(CAST, x.copy(1, 0, 0, 0, -1));
        x.sheet(1, 1, 4);
        due(INDEX, x.copy(0, 9, 1, 0, 1));
        due(INDEX, x.copy(1, 0, 0, 0, -1));
        // come: BAD; FULL. tell: BAD; NOT.
        due(BAD, letters(76).come(0, 8));
        due(BAD, x.tell(4, 0));
        due(NOT, x.tell(3, 0));
    }

    private static void indexWhereNoItemIsTaken() {
        says("INDEX also where no item is taken, if i, j is below 0, or above how many there are");
        MixRounds x = new MixRounds();
        x.sheet(0, 2, 5);
        x.sheet(1, 2, 24);
        x.sheet(2, 2, 0);
        due(0, x.copy(0, 0, 1, 0, 0));
        due(INDEX, x.copy(0, -1, 1, 0, 0));
        due(INDEX, x.copy(0, 0, 1, -1, 0));
        due(0, x.copy(0, 5, 1, 24, 0));
        due(INDEX, x.copy(0, 6, 1, 24, 0));
        due(INDEX, x.copy(0, 5, 1, 25, 0));
        due(0, x.copy(2, 0, 2, 0, 0));
        due(INDEX, x.copy(2, 1, 2, 0, 0));
        due(INDEX, x.copy(2, 0, 2, 1, 0));
        due(INDEX, x.copy(2, -1, 2, 0, 0));
        due(INDEX, x.copy(0, LOW, 1, 0, 0));
        due(INDEX, x.copy(0, 0, 1, HIGH, 0));
    }

    private static void refusedMixCalls() {
        says("What is refused changes nothing, but as told");
        refused(BAD, () -> waiting(5), x -> x.come(8, 0));
        refused(BAD, () -> waiting(5), x -> x.come(0, 8));
        refused(FULL, () -> waiting(12), x -> x.come(0, 0));
        refused(FULL, () -> letters(76), x -> x.come(0, 0));
        refused(FULL, () -> rounds(12), x -> x.come(0, 0));
        refused(FULL, () -> letters(76), x -> x.tick());
        refused(FULL, () -> rounds(12), x -> x.tick());
        refused(BAD, () -> waiting(5), x -> x.tell(0, 4));
        refused(BAD, () -> waiting(5), x -> x.tell(4, 1));
        refused(NOT, () -> waiting(5), x -> x.tell(0, CLOCK));
        refused(NOT, () -> mix(CLOCK, 5, 2, 1), x -> x.begin());
        refused(BAD, () -> waiting(5), x -> x.letter(5, 0));
        refused(BAD, () -> waiting(5), x -> x.inside(-1));
        refused(NONE, () -> waiting(5), x -> x.inside(5));
        refused(BAD, () -> rounds(2), x -> x.round(2, 0));
        refused(BAD, () -> rounds(2), x -> x.out(1, 1, 0));
        refused(BAD, () -> rounds(2), x -> x.count(8));
        refused(BAD, () -> rounds(2), x -> x.chance(1, 0, 2, 0));
        refused(BAD, () -> rounds(2), x -> x.sender(1, 0, 10, 0));
        refused(BAD, () -> rounds(2), x -> x.stays(2, 0));
        refused(BAD, () -> rounds(2), x -> x.expected(0, 8, 0));
        refused(NONE, () -> waiting(5), x -> x.blend());
    }

    private static void refusedOtherCalls() {
        says("What is refused changes nothing, but as told");
        refused(BAD, () -> typed(waiting(2), "0>"), x -> x.type(31));
        refused(BAD, () -> typed(waiting(2), "0>"), x -> x.type(127));
        refused(FULL, () -> typed(waiting(2), ".".repeat(90)), x -> x.type('.'));
        refused(BAD, () -> waiting(2), x -> x.drift(0));
        refused(BAD, () -> waiting(2), x -> x.drift(41));
        refused(NONE, () -> new MixRounds(), x -> x.undo());
        refused(BAD, () -> waiting(2), x -> x.seed(-1));
        refused(NONE, () -> waiting(2), x -> x.restore());
        refused(BAD, EdgesOfTerms::withSheets, x -> x.fits(0, 1, 0, 0));
        refused(NULL, EdgesOfTerms::withSheets, x -> x.fits(3, 1, 0, 1));
        refused(CAST, EdgesOfTerms::withSheets, x -> x.fits(0, 2, 0, 1));
        refused(INDEX, EdgesOfTerms::withSheets, x -> x.fits(0, 1, 3, 1));
        refused(NOT, EdgesOfTerms::withSheets, x -> x.fits(0, 1, 2, 1));
        refused(BAD, EdgesOfTerms::withSheets, x -> x.film(1, 0, 1, 0));
        refused(NULL, EdgesOfTerms::withSheets, x -> x.film(0, 3, 1, 0));
        refused(CAST, EdgesOfTerms::withSheets, x -> x.film(0, 1, 1, 0));
        refused(INDEX, EdgesOfTerms::withSheets, x -> x.film(0, 0, 1, 2));
        refused(BAD, EdgesOfTerms::withSheets, x -> x.sheet(0, 1, 25));
        refused(SIZE, EdgesOfTerms::withSheets, x -> x.sheet(0, 1, -1));
        refused(BAD, EdgesOfTerms::withSheets, x -> x.drop(4));
        refused(NULL, EdgesOfTerms::withSheets, x -> x.drop(3));
        refused(BAD, EdgesOfTerms::withSheets, x -> x.item(0, 4, 0, 5));
        refused(NULL, EdgesOfTerms::withSheets, x -> x.item(3, 1, 0, 5));
        refused(CAST, EdgesOfTerms::withSheets, x -> x.item(0, 2, 0, 5));
        refused(INDEX, EdgesOfTerms::withSheets, x -> x.item(0, 1, 4, 5));
        refused(BAD, EdgesOfTerms::withSheets, x -> x.copy(0, 0, 4, 0, 1));
        refused(NULL, EdgesOfTerms::withSheets, x -> x.copy(0, 0, 3, 0, 1));
        refused(CAST, EdgesOfTerms::withSheets, x -> x.copy(0, 0, 1, 0, 1));
        refused(INDEX, EdgesOfTerms::withSheets, x -> x.copy(0, 0, 2, 0, 4));
    }

    /** A round of three; two rows of shorts, one of ints, nothing on sheet 3. */
    private static MixRounds withSheets() {
        MixRounds x = comes(new MixRounds(), 3);
        row(x, 0, 1, 4, 4, 9, 41);
        row(x, 1, 2, 3, 3, 3, 3);
        return row(x, 2, 1, 5, 5, 5);
    }

    private static void refusedAsTold() {
        says("What is refused changes nothing, but as told");
        // A FAULT empties THE TAPE, and touches nothing else.
        refused(-22, () -> waiting(5), x -> reads(x, "0>8"));
        MixRounds x = typed(new MixRounds(), "0>8");
        x.read();
        due(1, x.type('.'));
        // A turn of a DRIFT that is refused changes THE DRAW, and may be UNDONE.
        x = waiting(12);
        x.seed(seedOf(1));
        due(12, x.drift(1));
        due(65536, x.seed(0));
    }

    private static void lowestTerms() {
        says("Fractions are in lowest terms: 0 above, 1 below (0 is 0 by 1)");
        MixRounds x = mix(BATCH, 4, 0, 0);
        x.come(1, 1);
        x.come(1, 2);
        x.come(2, 3);
        x.come(3, 3);
        // 1 by 4, 2 by 4, 4 by 4 are 1 by 4, 1 by 2, 1 by 1; none is 0 by 1.
        chance(1, 4, x, 0, 0, 0);
        sender(1, 2, x, 0, 0, 1);
        expected(1, 1, x, 1, 3);
        expected(1, 2, x, 2, 3);
        sender(0, 1, x, 0, 0, 7);
        stays(0, 1, x, 0);
        expected(0, 1, x, 1, 0);
        x.come(4, 4);
        chance(0, 1, x, 0, 0, 4);
        stays(1, 1, x, 4);
        // 6 by 4 is 3 by 2: it may be above 1.
        x = mix(BATCH, 4, 0, 0);
        for (int k = 0; k < 4; k++) {
            x.come(k < 3 ? 1 : 2, k < 2 ? 5 : 6);
        }
        expected(3, 2, x, 1, 5);
        expected(1, 2, x, 2, 6);
        // With 15 INSIDE, 4 of which stay, six times.
        x = mix(CLOCK, 1, 4, 3);
        comes(x, 12);
        for (int r = 0; r < 6; r++) {
            due(11, x.tick());
            comes(x, r < 5 ? 8 : 0);
        }
        stays(4096, 11390625, x, 0);
        chance(1024, 11390625, x, 5, 0, 0);
    }

    public static void main(String[] args) {
        badAheadOfAllOthers();
        badAheadOfSheets();
        theFirstThatACallNames();
        indexWhereNoItemIsTaken();
        refusedMixCalls();
        refusedOtherCalls();
        refusedAsTold();
        lowestTerms();
        end();
    }
}
