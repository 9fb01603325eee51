import java.util.ArrayList;
import java.util.List;
import java.util.function.Supplier;
import java.util.function.ToLongFunction;

/** What the tests of boundary cases share: the sentence at stake, answers that are due, and mixes made alike. */
abstract class EdgeTest {
    static final int BAD = -1, NOT = -2, FULL = -3, NONE = -4, NULL = -11, CAST = -12, INDEX = -13, SIZE = -14;
    static final int LOW = Integer.MIN_VALUE, HIGH = Integer.MAX_VALUE;
    static final int BATCH = 0, POOL = 1, CLOCK = 2, HALF = 3;
    static final int POLICY = 0, T = 1, P = 2, D = 3, INSIDE = 4, LETTERS = 5, ROUNDS = 6, UNDOABLE = 7;
    static final int OWN = 9, DUMMY = 8;

    private static final long TWO_31 = 1L << 31;
    private static String sentence = "";
    private static int row = 0;
    private static int sentences = 0;
    private static int wrong = 0;

    EdgeTest() {
    }

    /** The sentence of the document that the answers from here on are about. */
    static void says(String words) {
        sentence = words;
        row = 0;
        sentences++;
    }

    static void due(long want, long got) {
        row++;
        if (got != want) {
            wrong++;
            System.out.println("\"" + sentence + "\", row " + row + ": answered " + got + ", due is " + want);
        }
    }

    static void fraction(long above, long below, long gotAbove, long gotBelow) {
        due(above, gotAbove);
        due(below, gotBelow);
    }

    static void chance(long above, long below, MixRounds x, int r, int k, int i) {
        fraction(above, below, x.chance(r, k, i, 0), x.chance(r, k, i, 1));
    }

    static void sender(long above, long below, MixRounds x, int r, int k, int u) {
        fraction(above, below, x.sender(r, k, u, 0), x.sender(r, k, u, 1));
    }

    static void stays(long above, long below, MixRounds x, int i) {
        fraction(above, below, x.stays(i, 0), x.stays(i, 1));
    }

    static void expected(long above, long below, MixRounds x, int u, int v) {
        fraction(above, below, x.expected(u, v, 0), x.expected(u, v, 1));
    }

    /** The call is answered so, and changes nothing that later calls could tell. */
    static void refused(long want, Supplier<MixRounds> made, ToLongFunction<MixRounds> call) {
        int parts = tellings().size();
        for (int part = 0; part < parts; part++) {
            MixRounds touched = made.get();
            due(want, call.applyAsLong(touched));
            due(0, told(part, made.get()).equals(told(part, touched)) ? 0 : 1);
        }
    }

    /** Two mixes that were made in two ways are alike, whatever is asked. */
    static void alike(Supplier<MixRounds> one, Supplier<MixRounds> other) {
        int parts = tellings().size();
        for (int part = 0; part < parts; part++) {
            String want = told(part, one.get());
            String got = told(part, other.get());
            if (!want.equals(got)) {
                System.out.println("wanted" + want + ", got" + got);
            }
            due(0, want.equals(got) ? 0 : 1);
        }
    }

    private static String told(int part, MixRounds x) {
        StringBuilder text = new StringBuilder();
        tellings().get(part).tell(x, text);
        return text.toString();
    }

    private interface Telling {
        void tell(MixRounds x, StringBuilder text);
    }

    /** All that can be asked, in parts: an object is good for 512 calls, so each part gets objects of its own. */
    private static List<Telling> tellings() {
        List<Telling> all = new ArrayList<>();
        all.add(EdgeTest::tellCounts);
        all.add(EdgeTest::tellLetters);
        all.add(EdgeTest::tellRounds);
        all.add(EdgeTest::tellPast);
        all.add(EdgeTest::tellImage);
        all.add(EdgeTest::tellTape);
        for (int s = 0; s < 4; s++) {
            int sheet = s;
            all.add((x, text) -> tellSheet(x, sheet, text));
        }
        return all;
    }

    private static void tellCounts(MixRounds x, StringBuilder text) {
        for (int what = 0; what < 8; what++) {
            text.append(' ').append(x.count(what));
        }
        for (int k = 0; k < x.count(INSIDE); k++) {
            text.append(" in ").append(x.inside(k));
        }
        text.append(" draw ").append(x.seed(0));
    }

    private static void tellLetters(MixRounds x, StringBuilder text) {
        for (int i = 0; i < x.count(LETTERS); i++) {
            text.append(" letter");
            for (int what = 0; what < 5; what++) {
                text.append(' ').append(x.letter(i, what));
            }
        }
    }

    private static void tellRounds(MixRounds x, StringBuilder text) {
        for (int r = 0; r < x.count(ROUNDS); r++) {
            text.append(" round");
            for (int what = 0; what < 6; what++) {
                text.append(' ').append(x.round(r, what));
            }
            for (int k = 0; k < x.round(r, 1); k++) {
                text.append(" out ").append(x.out(r, k, 0));
            }
        }
    }

    private static void tellPast(MixRounds x, StringBuilder text) {
        for (int n = 0; n < 8; n++) {
            text.append(" undo ").append(x.undo());
            tellCounts(x, text);
        }
    }

    private static void tellImage(MixRounds x, StringBuilder text) {
        text.append(" restore ").append(x.restore());
        tellCounts(x, text);
    }

    private static void tellTape(MixRounds x, StringBuilder text) {
        text.append(" type ").append(x.type('.')).append(" read ").append(x.read());
        tellCounts(x, text);
    }

    private static void tellSheet(MixRounds x, int sheet, StringBuilder text) {
        x.tell(T, 1);
        x.tell(P, 0);
        for (int lane = 0; lane < 4; lane++) {
            for (int i = 0; i < 24; i++) {
                text.append(' ').append(x.fits(sheet, lane, i, 1));
            }
        }
        text.append(" drop ").append(x.drop(sheet));
    }

    /** THE DRAW changed so many times, by the document's words. */
    static int changed(int draw, int times) {
        long d = draw;
        for (int n = 0; n < times; n++) {
            d = (d * 1103515245L + 12345L) % TWO_31;
        }
        return (int) d;
    }

    /** THE DRAW that becomes this one when it is changed once. */
    static int ahead(int draw) {
        long inverse = 1;
        for (int step = 0; step < 6; step++) {
            inverse = inverse * (2 - 1103515245L * inverse);
        }
        long was = ((draw - 12345L) * inverse) & (TWO_31 - 1);
        if (changed((int) was, 1) != draw) {
            throw new IllegalStateException("no draw leads to " + draw);
        }
        return (int) was;
    }

    /** THE DRAW of which x is this one when it is changed once. */
    static int seedOf(int x) {
        return ahead(x * 65536);
    }

    /** A mix of which is told so much. */
    static MixRounds mix(int policy, int t, int p, int d) {
        MixRounds x = new MixRounds();
        x.tell(POLICY, policy);
        x.tell(T, t);
        x.tell(P, p);
        x.tell(D, d);
        return x;
    }

    /** So many letters come: from 0 to 1, from 1 to 2, and so on. */
    static MixRounds comes(MixRounds x, int n) {
        for (int k = 0; k < n; k++) {
            x.come(k % 8, (k + 1) % 8);
        }
        return x;
    }

    /** By CLOCK, P being 0: so many letters in the book, in rounds of 12, the rest of them INSIDE. */
    static MixRounds letters(int n) {
        MixRounds x = mix(CLOCK, 3, 0, 0);
        for (int k = 0; k < n; k++) {
            x.come(k % 8, (k + 1) % 8);
            if (k % 12 == 11) {
                x.tick();
            }
        }
        return x;
    }

    /** By BATCH, T being 1: so many rounds, a letter each. */
    static MixRounds rounds(int n) {
        return comes(mix(BATCH, 1, 0, 0), n);
    }

    /** By CLOCK so many letters INSIDE, no round. */
    static MixRounds waiting(int n) {
        return comes(mix(CLOCK, 3, 0, 0), n);
    }

    static MixRounds typed(MixRounds x, String text) {
        for (int k = 0; k < text.length(); k++) {
            x.type(text.charAt(k));
        }
        return x;
    }

    static int reads(MixRounds x, String text) {
        return typed(x, text).read();
    }

    /** A sheet holds a row of these items. */
    static MixRounds row(MixRounds x, int sheet, int lane, long... items) {
        x.sheet(sheet, lane, items.length);
        for (int k = 0; k < items.length; k++) {
            x.item(sheet, lane, k, items[k]);
        }
        return x;
    }

    /** Which policies the pairs fit, as they would be written on a sheet of ints. */
    static int fitting(MixRounds x, long... items) {
        return row(x, 0, 2, items).fits(0, 2, 0, items.length / 2);
    }

    /** Ends the program, with 1 if an answer was not due. */
    static void end() {
        System.out.println(wrong == 0 ? sentences + " sentences hold" : wrong + " answers are not as due");
        if (wrong != 0) {
            System.exit(1);
        }
    }
}
