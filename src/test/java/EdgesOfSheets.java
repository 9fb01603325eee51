/** The boundary cases of the sheets: nothing at first, rows of 0 to 24 items, LANES with a sign, what is taken and put. */
public final class EdgesOfSheets extends EdgeTest {

    /** An item from 0 to 9, else -1: by T 1, P 0 just so many go OUT as come. */
    private static int itemAt(MixRounds x, int sheet, int lane, int i) {
        x.tell(D, 0);
        x.tell(T, 1);
        x.tell(P, 0);
        int scratch = sheet == 3 ? 2 : 3;
        x.sheet(scratch, lane, 2);
        x.copy(sheet, i, scratch, 1, 1);
        for (int v = 0; v <= 9; v++) {
            x.item(scratch, lane, 0, v);
            int set = x.fits(scratch, lane, 0, 1);
            if (set >= 0 && (set & 1) == 1) {
                return v;
            }
        }
        return -1;
    }

    private static void items(MixRounds x, int sheet, int lane, int... want) {
        for (int i = 0; i < want.length; i++) {
            due(want[i], itemAt(x, sheet, lane, i));
        }
    }

    private static void nothingAtFirst() {
        says("sheets 0 .. 3: nothing (at first)");
        for (int s = 0; s < 4; s++) {
            MixRounds x = rounds(1);
            for (int lane = 0; lane < 4; lane++) {
                due(NULL, x.fits(s, lane, 0, 1));
                due(NULL, x.film(0, s, lane, 0));
                due(NULL, x.item(s, lane, 0, 0));
            }
            due(NULL, x.copy(s, 0, s, 0, 0));
            due(NULL, x.drop(s));
        }
        MixRounds x = rounds(1);
        for (int s : new int[] {-1, 4, LOW, HIGH}) {
            due(BAD, x.fits(s, 0, 0, 1));
            due(BAD, x.film(0, s, 0, 0));
            due(BAD, x.sheet(s, 0, 0));
            due(BAD, x.drop(s));
            due(BAD, x.item(s, 0, 0, 0));
            due(BAD, x.copy(s, 0, 0, 0, 0));
            due(BAD, x.copy(0, 0, s, 0, 0));
        }
        // Each holds a row of its own.
        x = new MixRounds();
        for (int s = 0; s < 4; s++) {
            x.sheet(s, s, 5 + s);
        }
        for (int s = 0; s < 4; s++) {
            due(5 + s, x.drop(s));
        }
    }

    private static void lanes() {
        says("a row of a LANE: 0 bytes, 1 shorts, 2 ints, 3 longs (all with a sign)");
        MixRounds x = rounds(1);
        for (int lane : new int[] {-1, 4, LOW, HIGH}) {
            due(BAD, x.sheet(0, lane, 1));
            due(BAD, x.item(0, lane, 0, 0));
            due(BAD, x.fits(0, lane, 0, 1));
            due(BAD, x.film(0, 0, lane, 0));
        }
        for (int lane = 0; lane < 4; lane++) {
            x.sheet(0, lane, 2);
            for (int other = 0; other < 4; other++) {
                due(other == lane ? 1 : CAST, x.item(0, other, 0, 0));
                due(other == lane ? 15 : CAST, x.fits(0, other, 0, 1));
            }
            for (int other = 0; other < 4; other++) {
                due(other == lane ? 1 : CAST, x.film(0, 0, other, 1));
            }
        }
        int[] bits = {8, 16, 32};
        for (int lane = 0; lane < 3; lane++) {
            long all = 1L << bits[lane];
            x = new MixRounds();
            x.sheet(0, lane, 1);
            long[] given = {0, 9, all, all + 9, -all, 9 - all, all / 2, all / 2 - 1, all - 1, -1, -all / 2, Long.MAX_VALUE, Long.MIN_VALUE + 3};
            int[] taken = {0, 9, 0, 9, 0, 9, -1, -1, -1, -1, -1, -1, 3};
            for (int n = 0; n < given.length; n++) {
                due(1, x.item(0, lane, 0, given[n]));
                due(taken[n], itemAt(x, 0, lane, 0));
            }
        }
        x = new MixRounds();
        x.sheet(0, 3, 1);
        long[] given = {0, 9, (1L << 32) + 9, (1L << 62) + 9, Long.MIN_VALUE + 9, -1, Long.MAX_VALUE};
        int[] taken = {0, 9, -1, -1, -1, -1, -1};
        for (int n = 0; n < given.length; n++) {
            due(1, x.item(0, 3, 0, given[n]));
            due(taken[n], itemAt(x, 0, 3, 0));
        }
    }

    private static void rowsOfItems() {
        says("of 0 to 24 items");
        for (int lane = 0; lane < 4; lane++) {
            MixRounds x = new MixRounds();
            due(SIZE, x.sheet(0, lane, -1));
            due(SIZE, x.sheet(0, lane, LOW));
            due(NULL, x.drop(0));
            due(0, x.sheet(0, lane, 0));
            due(INDEX, x.item(0, lane, 0, 1));
            due(24, x.sheet(0, lane, 24));
            due(1, x.item(0, lane, 23, 1));
            due(INDEX, x.item(0, lane, 24, 1));
            due(BAD, x.sheet(0, lane, 25));
            due(BAD, x.sheet(0, lane, HIGH));
            due(SIZE, x.sheet(0, lane, -1));
            due(24, x.drop(0));
        }
        says("A SHEET holds a new row of a LANE: n");
        // A new row: 0s, whatever stood there, and of another LANE or length.
        MixRounds x = row(new MixRounds(), 0, 1, 7, 7, 7);
        due(3, x.sheet(0, 1, 3));
        items(x, 0, 1, 0, 0, 0);
        x = row(new MixRounds(), 0, 1, 7, 7, 7);
        x.sheet(0, 1, 1);
        x.sheet(0, 1, 3);
        items(x, 0, 1, 0, 0, 0);
        x = row(new MixRounds(), 0, 1, 7, 7);
        x.drop(0);
        x.sheet(0, 3, 2);
        items(x, 0, 3, 0, 0);
        due(CAST, x.item(0, 1, 0, 0));
    }

    private static void dropped() {
        says("A SHEET holds nothing: how many items it had");
        MixRounds x = new MixRounds();
        for (int n : new int[] {0, 1, 23, 24}) {
            x.sheet(2, 1, n);
            due(n, x.drop(2));
            due(NULL, x.drop(2));
            due(NULL, x.item(2, 1, 0, 0));
        }
        due(BAD, x.drop(-1));
        due(BAD, x.drop(4));
    }

    private static void itemsPut() {
        says("Item i of a SHEET, taken as a row of a LANE, becomes v, its lowest bits: 1");
        MixRounds x = row(new MixRounds(), 1, 2, 5, 5, 5);
        due(INDEX, x.item(1, 2, -1, 8));
        due(1, x.item(1, 2, 0, 6));
        due(1, x.item(1, 2, 2, 7));
        due(INDEX, x.item(1, 2, 3, 8));
        due(INDEX, x.item(1, 2, LOW, 8));
        due(INDEX, x.item(1, 2, HIGH, 8));
        items(x, 1, 2, 6, 5, 7);
    }

    private static void films() {
        says("RECEIVERS of the OUTS of a ROUND, an item each, come to a SHEET likewise: how many");
        // Three go OUT: letters 2, 0, 1, to 3, 1, 2.
        for (int lane = 0; lane < 4; lane++) {
            MixRounds x = comes(new MixRounds(), 3);
            row(x, 0, lane, 9, 9, 9, 9, 9);
            due(INDEX, x.film(0, 0, lane, -1));
            due(INDEX, x.film(0, 0, lane, 3));
            due(3, x.film(0, 0, lane, 2));
            items(x, 0, lane, 9, 9, 3, 1, 2);
            due(3, x.film(0, 0, lane, 0));
            items(x, 0, lane, 3, 1, 2, 1, 2);
        }
        MixRounds x = comes(new MixRounds(), 3);
        due(BAD, x.film(-1, 0, 0, 0));
        due(BAD, x.film(1, 0, 0, 0));
        due(BAD, x.film(HIGH, 0, 0, 0));
        x.sheet(0, 0, 3);
        due(3, x.film(0, 0, 0, 0));
        due(INDEX, x.film(0, 0, 0, 1));
        due(INDEX, x.film(0, 0, 0, HIGH));
        due(INDEX, x.film(0, 0, 0, LOW));
        x.sheet(0, 0, 2);
        due(INDEX, x.film(0, 0, 0, 0));
        x.sheet(0, 0, 0);
        due(INDEX, x.film(0, 0, 0, 0));
        // 15 OUTS, DUMMIES and OWN ones, too, to the end of a row of 24.
        x = mix(CLOCK, 1, 0, 3);
        for (int k = 0; k < 12; k++) {
            x.come(k % 2 == 0 ? OWN : k % 8, 7 - k % 8);
        }
        x.tick();
        x.sheet(1, 1, 24);
        due(INDEX, x.film(0, 1, 1, 10));
        due(15, x.film(0, 1, 1, 9));
        due(0, itemAt(x, 1, 1, 8));
        for (int k = 0; k < 15; k++) {
            due(x.out(0, k, 1), itemAt(x, 1, 1, 9 + k));
        }
    }

    private static void copies() {
        says("n items of a SHEET from i on come to another one (or the same) from j on, as if all were taken ahead: n");
        for (int lane = 0; lane < 4; lane++) {
            MixRounds x = row(new MixRounds(), 0, lane, 1, 2, 3, 4, 5);
            row(x, 1, lane, 9, 9, 9);
            due(0, x.copy(0, 0, 1, 0, 0));
            due(1, x.copy(0, 4, 1, 2, 1));
            items(x, 1, lane, 9, 9, 5);
            due(3, x.copy(0, 1, 1, 0, 3));
            items(x, 1, lane, 2, 3, 4);
            items(x, 0, lane, 1, 2, 3, 4, 5);
        }
        MixRounds x = row(new MixRounds(), 0, 0, 1, 2, 3, 4, 5);
        due(4, x.copy(0, 0, 0, 1, 4));
        items(x, 0, 0, 1, 1, 2, 3, 4);
        x = row(new MixRounds(), 0, 0, 1, 2, 3, 4, 5);
        due(4, x.copy(0, 1, 0, 0, 4));
        items(x, 0, 0, 2, 3, 4, 5, 5);
        due(5, x.copy(0, 0, 0, 0, 5));
        items(x, 0, 0, 2, 3, 4, 5, 5);
        // The greatest copy; numbers outside 0 .. 9 are carried, too.
        x.sheet(1, 3, 24);
        x.sheet(2, 3, 24);
        due(24, x.copy(1, 0, 2, 0, 24));
        due(INDEX, x.copy(1, 0, 2, 0, 25));
        row(x, 1, 3, 9 + (1L << 40));
        due(1, x.copy(1, 0, 2, 23, 1));
        due(NOT, x.fits(2, 3, 22, 1));
        says("NULL (either); CAST: of unlike LANES; INDEX (n below 0, too)");
        x = row(new MixRounds(), 0, 1, 1, 2, 3);
        due(NULL, x.copy(0, 0, 1, 0, 1));
        due(NULL, x.copy(1, 0, 0, 0, 1));
        for (int lane = 0; lane < 4; lane++) {
            x.sheet(1, lane, 4);
            due(lane == 1 ? 1 : CAST, x.copy(0, 0, 1, 0, 1));
            due(lane == 1 ? 0 : CAST, x.copy(1, 0, 0, 0, 0));
        }
        row(x, 0, 1, 1, 2, 3);
        row(x, 1, 1, 9, 9, 9, 9);
        due(INDEX, x.copy(0, 0, 1, 0, -1));
        due(INDEX, x.copy(0, 1, 1, 1, -1));
        due(INDEX, x.copy(0, 0, 1, 0, LOW));
        due(INDEX, x.copy(0, 0, 1, 0, HIGH));
        due(INDEX, x.copy(0, 0, 1, 0, 4));
        due(INDEX, x.copy(0, 1, 1, 0, 3));
        due(INDEX, x.copy(1, 0, 0, 0, 4));
        due(INDEX, x.copy(1, 0, 0, 1, 3));
        due(INDEX, x.copy(0, -1, 1, 0, 1));
        due(INDEX, x.copy(0, 0, 1, -1, 1));
        due(INDEX, x.copy(0, HIGH, 1, 0, HIGH));
        due(INDEX, x.copy(0, 0, 1, HIGH, 1));
        due(INDEX, x.copy(0, LOW, 1, LOW, LOW));
        items(x, 1, 1, 9, 9, 9, 9);
        due(3, x.copy(0, 0, 1, 1, 3));
        items(x, 1, 1, 9, 1, 2, 3);
    }

    public static void main(String[] args) {
        nothingAtFirst();
        lanes();
        rowsOfItems();
        dropped();
        itemsPut();
        films();
        copies();
        end();
    }
}
