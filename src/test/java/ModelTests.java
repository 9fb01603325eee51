import java.math.BigInteger;
import java.util.ArrayDeque;
import java.util.ArrayList;
import java.util.Arrays;
import java.util.Deque;
import java.util.List;
import java.util.Random;

/**
 * Long runs of drawn calls on MixRounds and on a second, naive telling of the document: lists that are
 * copied whole, fractions of BigInteger taken straight from the definitions. Every answer must be the same.
 */
public final class ModelTests {
    private static final int RUNS = 4000;
    private static final int CALLS = 512;
    private static int wrong = 0;

    /** A letter of the naive book. */
    private static final class Letter {
        int sender, receiver, first, round = -4, place = -4;

        Letter copy() {
            Letter c = new Letter();
            c.sender = sender;
            c.receiver = receiver;
            c.first = first;
            c.round = round;
            c.place = place;
            return c;
        }
    }

    /** A round of the naive book: the letters that it found, those that went, dummies. */
    private static final class Round {
        List<Integer> found = new ArrayList<>();
        List<Integer> gone = new ArrayList<>();
        int dummies;
    }

    private static final class Fraction {
        final BigInteger above, below;

        Fraction(BigInteger a, BigInteger b) {
            BigInteger g = a.gcd(b);
            above = a.divide(g);
            below = b.divide(g);
        }

        static Fraction of(long a, long b) {
            return new Fraction(BigInteger.valueOf(a), BigInteger.valueOf(b));
        }

        Fraction plus(Fraction o) {
            return new Fraction(above.multiply(o.below).add(o.above.multiply(below)), below.multiply(o.below));
        }

        Fraction times(Fraction o) {
            return new Fraction(above.multiply(o.above), below.multiply(o.below));
        }

        boolean isZero() {
            return above.signum() == 0;
        }

        boolean exceeds(Fraction o) {
            return above.multiply(o.below).compareTo(o.above.multiply(below)) > 0;
        }

        long part(int what) {
            return (what == 0 ? above : below).longValueExact();
        }
    }

    private static final class State {
        int policy = 0, t = 3, p = 1, d = 0;
        long draw = 1;
        List<Letter> letters = new ArrayList<>();
        List<Round> rounds = new ArrayList<>();

        State copy() {
            State c = new State();
            c.policy = policy;
            c.t = t;
            c.p = p;
            c.d = d;
            c.draw = draw;
            for (Letter l : letters) {
                c.letters.add(l.copy());
            }
            c.rounds.addAll(rounds);
            return c;
        }

        List<Integer> inside() {
            List<Integer> in = new ArrayList<>();
            for (int i = 0; i < letters.size(); i++) {
                if (letters.get(i).round < 0) {
                    in.add(i);
                }
            }
            return in;
        }

        boolean full() {
            return letters.size() >= 76 || rounds.size() >= 12;
        }

        int x() {
            draw = (draw * 1103515245L + 12345L) % 2147483648L;
            return (int) (draw / 65536);
        }

        void put(int sender, int receiver) {
            Letter l = new Letter();
            l.sender = sender;
            l.receiver = receiver;
            l.first = rounds.size();
            letters.add(l);
        }

        int come(int sender, int receiver) {
            if (full() || inside().size() >= 12) {
                return -3;
            }
            put(sender, receiver);
            int n = inside().size();
            if (policy == 0 && n >= t) {
                return go(n + d);
            }
            if (policy == 1 && n >= t + p) {
                return go(n + d - p);
            }
            return 0;
        }

        int tick() {
            if (full()) {
                return -3;
            }
            int n = inside().size();
            if (policy == 2 && n > p) {
                return go(n + d - p);
            }
            if (policy == 3 && n > 0) {
                return go((n + d) / 2 + (n + d) % 2);
            }
            return 0;
        }

        int go(int n) {
            Round r = new Round();
            for (int e = 0; e < d; e++) {
                put(8, x() % 8);
            }
            r.dummies = d;
            r.found = inside();
            for (int k = 0; k < n; k++) {
                List<Integer> in = inside();
                int i = in.get(x() % in.size());
                letters.get(i).round = rounds.size();
                letters.get(i).place = k;
                r.gone.add(i);
            }
            rounds.add(r);
            return n;
        }

        int notOwn(List<Integer> some) {
            int n = 0;
            for (int i : some) {
                if (letters.get(i).sender != 9) {
                    n++;
                }
            }
            return n;
        }

        Fraction left(int q) {
            int m = notOwn(rounds.get(q).found);
            int j = notOwn(rounds.get(q).gone);
            return m == 0 ? null : Fraction.of(m - j, m);
        }

        Fraction lefts(int from, int below) {
            Fraction f = Fraction.of(1, 1);
            for (int q = from; q < below; q++) {
                if (f.isZero()) {
                    return f;
                }
                f = f.times(left(q));
            }
            return f;
        }

        Fraction chance(int r, int k, int i) {
            int gone = rounds.get(r).gone.get(k);
            if (letters.get(gone).sender == 9) {
                return Fraction.of(gone == i ? 1 : 0, 1);
            }
            Letter l = letters.get(i);
            if (l.sender == 9 || l.first > r) {
                return Fraction.of(0, 1);
            }
            return lefts(l.first, r).times(Fraction.of(1, notOwn(rounds.get(r).found)));
        }

        Fraction sender(int r, int k, int u) {
            Fraction f = Fraction.of(0, 1);
            for (int i = 0; i < letters.size(); i++) {
                if (letters.get(i).sender == u) {
                    f = f.plus(chance(r, k, i));
                }
            }
            return f;
        }

        Fraction expected(int u, int v) {
            Fraction f = Fraction.of(0, 1);
            for (int r = 0; r < rounds.size(); r++) {
                for (int k = 0; k < rounds.get(r).gone.size(); k++) {
                    if (letters.get(rounds.get(r).gone.get(k)).receiver == v) {
                        f = f.plus(sender(r, k, u));
                    }
                }
            }
            return f;
        }

        boolean hasOut(int r, int k) {
            return r >= 0 && r < rounds.size() && k >= 0 && k < rounds.get(r).gone.size();
        }
    }

    private static final class Model {
        State s = new State();
        Deque<State> past = new ArrayDeque<>();
        State imageState;
        Deque<State> imagePast;
        StringBuilder tape = new StringBuilder();
        long[][] sheets = new long[4][];
        int[] lanes = new int[4];

        void keep(State before) {
            past.addLast(before);
            if (past.size() > 6) {
                past.removeFirst();
            }
        }

        int come(int sender, int receiver) {
            if (sender < 0 || sender > 9 || sender == 8 || receiver < 0 || receiver > 7) {
                return -1;
            }
            State before = s.copy();
            int a = s.come(sender, receiver);
            if (a >= 0) {
                keep(before);
            }
            return a;
        }

        int tick() {
            State before = s.copy();
            int a = s.tick();
            if (a >= 0) {
                keep(before);
            }
            return a;
        }

        int tell(int what, int v) {
            State before = s.copy();
            int was;
            switch (what) {
                case 0: was = s.policy; if (v < 0 || v > 3) return -1; s.policy = v; break;
                case 1: was = s.t; if (v < 1 || v > 8) return -1; s.t = v; break;
                case 2: was = s.p; if (v < 0 || v > 4) return -1; s.p = v; break;
                case 3: was = s.d; if (v < 0 || v > 3) return -1; s.d = v; break;
                default: return -1;
            }
            if (was == v) {
                return -2;
            }
            keep(before);
            return was;
        }

        int begin() {
            int n = s.letters.size();
            if (n == 0) {
                return -2;
            }
            keep(s.copy());
            s.letters.clear();
            s.rounds.clear();
            return n;
        }

        int letter(int i, int what) {
            if (i < 0 || i >= s.letters.size() || what < 0 || what > 4) {
                return -1;
            }
            Letter l = s.letters.get(i);
            return new int[] {l.sender, l.receiver, l.first, l.round, l.place}[what];
        }

        int inside(int k) {
            return k < 0 ? -1 : k < s.inside().size() ? s.inside().get(k) : -4;
        }

        int round(int r, int what) {
            if (r < 0 || r >= s.rounds.size() || what < 0 || what > 5) {
                return -1;
            }
            Round x = s.rounds.get(r);
            int m = s.notOwn(x.found);
            int j = s.notOwn(x.gone);
            return new int[] {x.found.size(), x.gone.size(), x.gone.size() - j, m, j, x.dummies}[what];
        }

        int out(int r, int k, int what) {
            if (!s.hasOut(r, k) || what < 0 || what > 3) {
                return -1;
            }
            int i = s.rounds.get(r).gone.get(k);
            if (what < 2) {
                return what == 0 ? i : s.letters.get(i).receiver;
            }
            int many = 0;
            int best = -1;
            Fraction greatest = Fraction.of(0, 1);
            for (int l = 0; l < s.letters.size(); l++) {
                Fraction f = s.chance(r, k, l);
                if (!f.isZero()) {
                    many++;
                }
                if (f.exceeds(greatest)) {
                    greatest = f;
                    best = l;
                }
            }
            return what == 2 ? many : best;
        }

        int count(int what) {
            if (what < 0 || what > 7) {
                return -1;
            }
            return new int[] {s.policy, s.t, s.p, s.d, s.inside().size(), s.letters.size(), s.rounds.size(),
                past.size()}[what];
        }

        long chance(int r, int k, int i, int what) {
            if (!s.hasOut(r, k) || i < 0 || i >= s.letters.size() || what < 0 || what > 1) {
                return -1;
            }
            return s.chance(r, k, i).part(what);
        }

        long sender(int r, int k, int u, int what) {
            if (!s.hasOut(r, k) || u < 0 || u > 9 || what < 0 || what > 1) {
                return -1;
            }
            return s.sender(r, k, u).part(what);
        }

        long stays(int i, int what) {
            if (i < 0 || i >= s.letters.size() || what < 0 || what > 1) {
                return -1;
            }
            if (s.letters.get(i).sender == 9) {
                return -2;
            }
            return s.lefts(s.letters.get(i).first, s.rounds.size()).part(what);
        }

        long expected(int u, int v, int what) {
            if (u < 0 || u > 9 || v < 0 || v > 7 || what < 0 || what > 1) {
                return -1;
            }
            return s.expected(u, v).part(what);
        }

        int blend() {
            if (s.policy != 0 || s.d != 0) {
                return -4;
            }
            int in = s.inside().size();
            return (in == 0 ? 0 : in >= s.t ? 1 : s.t - in) + s.t - 1;
        }

        int type(int letter) {
            if (letter < 32 || letter > 126) {
                return -1;
            }
            if (tape.length() == 90) {
                return -3;
            }
            tape.append((char) letter);
            return tape.length();
        }

        int read() {
            String text = tape.toString();
            tape.setLength(0);
            List<int[]> events = new ArrayList<>();
            int wants = 0;
            int from = 0;
            for (int at = 0; at < text.length(); at++) {
                char c = text.charAt(at);
                if (c == ' ') {
                    continue;
                }
                if (wants == 0 && c == '.') {
                    events.add(null);
                } else if (wants == 0 && (c == '!' || c >= '0' && c <= '7')) {
                    from = c == '!' ? 9 : c - '0';
                    wants = 1;
                } else if (wants == 1 && c == '>') {
                    wants = 2;
                } else if (wants == 2 && c >= '0' && c <= '7') {
                    events.add(new int[] {from, c - '0'});
                    wants = 0;
                } else {
                    return -20 - at;
                }
            }
            if (wants != 0 || events.isEmpty()) {
                return -20 - text.length();
            }
            keep(s.copy());
            int done = 0;
            for (int[] e : events) {
                int a = e == null ? s.tick() : s.come(e[0], e[1]);
                if (a < 0) {
                    break;
                }
                done++;
            }
            return done;
        }

        int drift(int n) {
            if (n < 1 || n > 40) {
                return -1;
            }
            for (int turn = 0; turn < n; turn++) {
                keep(s.copy());
                int x = s.x();
                if (x % 8 == 0) {
                    s.tick();
                } else {
                    s.come((x / 8) % 8, (x / 64) % 8);
                }
            }
            return s.letters.size();
        }

        int undo() {
            if (past.isEmpty()) {
                return -4;
            }
            s = past.removeLast();
            return past.size();
        }

        int seed(int v) {
            if (v < 0) {
                return -1;
            }
            int was = (int) s.draw;
            s.draw = v;
            return was;
        }

        static Deque<State> copyOf(Deque<State> some) {
            Deque<State> c = new ArrayDeque<>();
            for (State x : some) {
                c.addLast(x.copy());
            }
            return c;
        }

        int image() {
            imageState = s.copy();
            imagePast = copyOf(past);
            return 1;
        }

        int restore() {
            if (imageState == null) {
                return -4;
            }
            s = imageState.copy();
            past = copyOf(imagePast);
            return 1;
        }

        int bySheet(int sheet, int lane, int i, int n) {
            if (sheets[sheet] == null) {
                return -11;
            }
            if (lanes[sheet] != lane) {
                return -12;
            }
            return i < 0 || n < 0 || (long) i + n > sheets[sheet].length ? -13 : 0;
        }

        static boolean noSheet(int sheet) {
            return sheet < 0 || sheet > 3;
        }

        int fits(int sheet, int lane, int i, int n) {
            if (noSheet(sheet) || lane < 0 || lane > 3 || n < 1 || n > 8) {
                return -1;
            }
            int f = bySheet(sheet, lane, i, 2 * n);
            if (f != 0) {
                return f;
            }
            for (int e = 0; e < 2 * n; e++) {
                long v = sheets[sheet][i + e];
                if (v < 0 || v > (e % 2 == 0 ? 9 : 40)) {
                    return -2;
                }
            }
            int set = 0;
            for (int policy = 0; policy < 4; policy++) {
                if (fitsOne(sheets[sheet], i, n, policy)) {
                    set += 1 << policy;
                }
            }
            return set;
        }

        /** By letting letters come into a book that is begun anew whenever none is inside or it is near its limits. */
        boolean fitsOne(long[] row, int i, int n, int policy) {
            State w = new State();
            w.policy = policy;
            w.t = s.t;
            w.p = s.p;
            w.d = s.d;
            for (int pair = 0; pair < n; pair++) {
                long going = 0;
                for (int c = 0; c <= row[i + 2 * pair]; c++) {
                    int in = w.inside().size();
                    w.letters.clear();
                    w.rounds.clear();
                    for (int l = 0; l < in; l++) {
                        w.put(0, 0);
                    }
                    int a = c < row[i + 2 * pair] ? w.come(0, 0) : w.tick();
                    if (a < 0) {
                        return false;
                    }
                    going += a;
                }
                if (going != row[i + 2 * pair + 1]) {
                    return false;
                }
            }
            return true;
        }

        int film(int r, int sheet, int lane, int i) {
            if (r < 0 || r >= s.rounds.size() || noSheet(sheet) || lane < 0 || lane > 3) {
                return -1;
            }
            List<Integer> gone = s.rounds.get(r).gone;
            int f = bySheet(sheet, lane, i, gone.size());
            if (f != 0) {
                return f;
            }
            for (int k = 0; k < gone.size(); k++) {
                sheets[sheet][i + k] = s.letters.get(gone.get(k)).receiver;
            }
            return gone.size();
        }

        int sheet(int sheet, int lane, int n) {
            if (noSheet(sheet) || lane < 0 || lane > 3 || n > 24) {
                return -1;
            }
            if (n < 0) {
                return -14;
            }
            sheets[sheet] = new long[n];
            lanes[sheet] = lane;
            return n;
        }

        int drop(int sheet) {
            if (noSheet(sheet)) {
                return -1;
            }
            if (sheets[sheet] == null) {
                return -11;
            }
            int n = sheets[sheet].length;
            sheets[sheet] = null;
            return n;
        }

        int item(int sheet, int lane, int i, long v) {
            if (noSheet(sheet) || lane < 0 || lane > 3) {
                return -1;
            }
            int f = bySheet(sheet, lane, i, 1);
            if (f != 0) {
                return f;
            }
            int unused = 64 - new int[] {8, 16, 32, 64}[lane];
            sheets[sheet][i] = v << unused >> unused;
            return 1;
        }

        int copy(int from, int i, int to, int j, int n) {
            if (noSheet(from) || noSheet(to)) {
                return -1;
            }
            if (sheets[from] == null || sheets[to] == null) {
                return -11;
            }
            if (lanes[from] != lanes[to]) {
                return -12;
            }
            int f = bySheet(from, lanes[from], i, n);
            int g = bySheet(to, lanes[to], j, n);
            if (f != 0 || g != 0) {
                return -13;
            }
            long[] taken = Arrays.copyOfRange(sheets[from], i, i + n);
            for (int e = 0; e < n; e++) {
                sheets[to][j + e] = taken[e];
            }
            return n;
        }
    }

    private static final int[] ODD = {Integer.MIN_VALUE, Integer.MAX_VALUE, -1, -2, 100, 1 << 30, -(1 << 30)};

    /** Mostly a number from 0 to n, now and then one that is far off. */
    private static int about(Random random, int n) {
        return random.nextInt(40) == 0 ? ODD[random.nextInt(ODD.length)] : random.nextInt(n + 1);
    }

    private static final String SIGNS = "0123456789>>>>!!..  x";

    private final MixRounds x = new MixRounds();
    private final Model m = new Model();
    private final Random random;
    private final StringBuilder log = new StringBuilder();
    private final int style;

    private ModelTests(long seed) {
        random = new Random(seed);
        style = (int) (seed % 6);
    }

    private boolean same(String call, long got, long want) {
        log.append(call).append(" -> ").append(want).append('\n');
        if (got == want) {
            return true;
        }
        wrong++;
        if (wrong <= 3) {
            System.out.println(log + "but it answered " + got);
        }
        return false;
    }

    private boolean mixCall() {
        int pick = random.nextInt(12);
        if (pick < 6) {
            int u = random.nextInt(4) == 0 ? 9 : about(random, 10);
            int v = about(random, 8);
            return same("come(" + u + ", " + v + ")", x.come(u, v), m.come(u, v));
        }
        if (pick < 8) {
            return same("tick()", x.tick(), m.tick());
        }
        if (pick == 8) {
            int what = about(random, 4);
            int v = about(random, 9);
            return same("tell(" + what + ", " + v + ")", x.tell(what, v), m.tell(what, v));
        }
        if (pick == 9) {
            int n = random.nextInt(style == 3 ? 41 : 5) + random.nextInt(2);
            return same("drift(" + n + ")", x.drift(n), m.drift(n));
        }
        if (pick == 10) {
            return rareCall();
        }
        return style < 2 || same("undo()", x.undo(), m.undo());
    }

    private boolean rareCall() {
        switch (random.nextInt(style == 5 ? 4 : 12)) {
            case 0: return same("begin()", x.begin(), m.begin());
            case 1: return same("image()", x.image(), m.image());
            case 2: return same("restore()", x.restore(), m.restore());
            case 3:
                int v = random.nextInt();
                return same("seed(" + v + ")", x.seed(v), m.seed(v));
            default: return true;
        }
    }

    private boolean tapeCall() {
        if (random.nextInt(20) == 0) {
            int odd = about(random, 200);
            return same("type(" + odd + ")", x.type(odd), m.type(odd));
        }
        String text = drawText();
        for (int k = 0; k < text.length(); k++) {
            char c = text.charAt(k);
            if (!same("type(" + (int) c + ")", x.type(c), m.type(c))) {
                return false;
            }
        }
        return random.nextInt(4) == 0 || same("read()", x.read(), m.read());
    }

    private String drawText() {
        StringBuilder text = new StringBuilder();
        int events = random.nextInt(9);
        for (int e = 0; e < events; e++) {
            if (random.nextInt(5) == 0) {
                text.append('.');
            } else {
                text.append("01234567!".charAt(random.nextInt(9))).append('>').append((char) ('0' + random.nextInt(8)));
            }
            if (random.nextInt(3) == 0) {
                text.append(' ');
            }
        }
        if (random.nextInt(3) == 0) {
            text.insert(random.nextInt(text.length() + 1), SIGNS.charAt(random.nextInt(SIGNS.length())));
        }
        return text.toString();
    }

    private boolean sheetCall() {
        int s = about(random, 3);
        int lane = random.nextInt(3) == 0 ? about(random, 4) : 1;
        int i = about(random, 25);
        int n = about(random, 9);
        switch (random.nextInt(9)) {
            case 0:
                int size = random.nextInt(3) == 0 ? about(random, 25) : 24;
                return same("sheet(" + s + ", " + lane + ", " + size + ")", x.sheet(s, lane, size), m.sheet(s, lane, size));
            case 1:
                if (random.nextInt(4) != 0) {
                    return true;
                }
                return same("drop(" + s + ")", x.drop(s), m.drop(s));
            case 2:
                int j = about(random, 25);
                int to = about(random, 3);
                return same("copy(" + s + ", " + i + ", " + to + ", " + j + ", " + n + ")",
                    x.copy(s, i, to, j, n), m.copy(s, i, to, j, n));
            case 3:
                int r = about(random, 12);
                return same("film(" + r + ", " + s + ", " + lane + ", " + i + ")", x.film(r, s, lane, i), m.film(r, s, lane, i));
            case 4:
            case 5:
                return fitsLikely(random.nextInt(4));
            case 6:
                return same("fits(" + s + ", " + lane + ", " + i + ", " + n + ")", x.fits(s, lane, i, n), m.fits(s, lane, i, n));
            default:
                long v = random.nextInt(4) == 0 ? random.nextLong() : random.nextInt(12);
                return same("item(" + s + ", " + lane + ", " + i + ", " + v + ")", x.item(s, lane, i, v), m.item(s, lane, i, v));
        }
    }

    /** Writes pairs that one policy would bring, so that a set is not always empty. */
    private boolean fitsLikely(int policy) {
        int n = 1 + random.nextInt(8);
        boolean good = same("sheet(0, 1, 20)", x.sheet(0, 1, 20), m.sheet(0, 1, 20));
        for (int pair = 0; pair < n && good; pair++) {
            int coming = random.nextInt(n > 3 ? 6 : 10);
            good = same("item(0, 1, " + 2 * pair + ", " + coming + ")", x.item(0, 1, 2 * pair, coming), m.item(0, 1, 2 * pair, coming));
            for (int going = 0; going <= 40 && good; going++) {
                m.item(0, 1, 2 * pair + 1, going);
                if ((m.fits(0, 1, 0, pair + 1) >> policy & 1) == 1) {
                    break;
                }
            }
            long going = m.sheets[0][2 * pair + 1];
            good = good && same("item(0, 1, " + (2 * pair + 1) + ", " + going + ")", x.item(0, 1, 2 * pair + 1, going), 1);
        }
        return good && same("fits(0, 1, 0, " + n + ")", x.fits(0, 1, 0, n), m.fits(0, 1, 0, n));
    }

    private boolean lookCall() {
        int r = about(random, Math.max(0, m.s.rounds.size() - random.nextInt(2)));
        int k = about(random, random.nextInt(3) == 0 ? 15 : 3);
        int i = about(random, m.s.letters.size());
        int u = about(random, 10);
        int what = about(random, 1 + random.nextInt(2));
        switch (random.nextInt(10)) {
            case 0: what = about(random, 5); return same("letter(" + i + ", " + what + ")", x.letter(i, what), m.letter(i, what));
            case 1: return same("inside(" + k + ")", x.inside(k), m.inside(k));
            case 2: what = about(random, 6); return same("round(" + r + ", " + what + ")", x.round(r, what), m.round(r, what));
            case 3: case 4: what = about(random, 4); return same("out(" + r + ", " + k + ", " + what + ")", x.out(r, k, what), m.out(r, k, what));
            case 5: what = about(random, 8); return same("count(" + what + ")", x.count(what), m.count(what));
            case 6: return same("chance(" + r + ", " + k + ", " + i + ", " + what + ")", x.chance(r, k, i, what), m.chance(r, k, i, what));
            case 7: return same("sender(" + r + ", " + k + ", " + u + ", " + what + ")", x.sender(r, k, u, what), m.sender(r, k, u, what));
            case 8: return same("stays(" + i + ", " + what + ")", x.stays(i, what), m.stays(i, what))
                && same("blend()", x.blend(), m.blend());
            default: int v = about(random, 8); return same("expected(" + u + ", " + v + ", " + what + ")", x.expected(u, v, what), m.expected(u, v, what));
        }
    }

    private void run() {
        boolean good = true;
        // Long rounds of a full mix give the largest fractions.
        if (style == 1) {
            good = same("tell(0, 2)", x.tell(0, 2), m.tell(0, 2)) && same("tell(2, 4)", x.tell(2, 4), m.tell(2, 4))
                && same("tell(3, 3)", x.tell(3, 3), m.tell(3, 3));
        }
        if (style == 4) {
            good = same("tell(0, 3)", x.tell(0, 3), m.tell(0, 3));
        }
        for (int call = 0; call < CALLS / 4 && good; call++) {
            int pick = random.nextInt(20);
            if (pick < 8) {
                good = mixCall();
            } else if (pick < 17) {
                good = lookCall();
            } else if (pick == 17) {
                good = tapeCall();
            } else {
                good = sheetCall();
            }
        }
    }

    public static void main(String[] args) {
        int runs = args.length > 0 ? Integer.parseInt(args[0]) : RUNS;
        for (int run = 0; run < runs; run++) {
            new ModelTests(run).run();
        }
        System.out.println(wrong == 0 ? runs + " drawn runs are as due" : wrong + " drawn runs are not as due");
        if (wrong != 0) {
            System.exit(1);
        }
    }
}
