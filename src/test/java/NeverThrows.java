/** Every call, in mixes of every kind, with numbers from both ends and around every edge: none may throw or fail to end. */
public final class NeverThrows extends EdgeTest {
    private static final int[] ODD = {LOW, LOW + 1, -25, -1, 0, 1, 3, 4, 8, 10, 12, 24, 25, 79, HIGH - 1, HIGH};
    private static final int[] FEW = {LOW, -1, 0, 3, 24, HIGH};
    private static final int LEAST_ANSWER = -110;
    private static long sum = 0;

    private static void answer(long got) {
        if (got < LEAST_ANSWER) {
            due(LEAST_ANSWER, got);
        }
        sum += got;
    }

    private static MixRounds[] kinds() {
        MixRounds sheets = comes(mix(CLOCK, 1, 4, 3), 12);
        sheets.tick();
        for (int s = 0; s < 4; s++) {
            sheets.sheet(s, s % 3, s == 1 ? 0 : 24);
        }
        MixRounds beyond = letters(75);
        beyond.tell(D, 3);
        beyond.tell(POLICY, BATCH);
        beyond.come(OWN, 7);
        MixRounds own = rounds(3);
        own.come(OWN, 0);
        own.image();
        own.come(4, 4);
        MixRounds drifting = mix(HALF, 1, 0, 3);
        drifting.drift(40);
        return new MixRounds[] {new MixRounds(), waiting(12), letters(76), rounds(12), sheets, beyond, own, drifting,
            typed(waiting(3), ".".repeat(90))};
    }

    private static void withNone(MixRounds x) {
        answer(x.tick());
        answer(x.blend());
        answer(x.image());
        answer(x.read());
        answer(x.undo());
        answer(x.restore());
        answer(x.restore());
    }

    private static void withOneOrTwo(MixRounds x) {
        for (int a : ODD) {
            answer(x.inside(a));
            answer(x.count(a));
            answer(x.type(a));
            for (int b : ODD) {
                answer(x.letter(a, b));
                answer(x.round(a, b));
                answer(x.stays(a, b));
            }
        }
    }

    private static void withMore(MixRounds x) {
        for (int a : ODD) {
            for (int b : ODD) {
                for (int c : ODD) {
                    answer(x.out(a, b, c));
                    answer(x.expected(a, b, c));
                    for (int d : FEW) {
                        answer(x.chance(a, b, c, d));
                        answer(x.sender(a, b, c, d));
                        answer(x.fits(a, b, c, d));
                        answer(x.film(a, b, d, c));
                        answer(x.item(a, b, c, d * 4294967296L + d));
                    }
                }
            }
        }
    }

    private static void copies(MixRounds x) {
        for (int from : FEW) {
            for (int to : FEW) {
                for (int i : ODD) {
                    for (int j : ODD) {
                        for (int n : ODD) {
                            answer(x.copy(from, i, to, j, n));
                        }
                    }
                }
            }
        }
    }

    private static void changing(MixRounds x) {
        for (int a : ODD) {
            answer(x.drift(a));
            answer(x.seed(a));
            answer(x.begin());
            for (int b : ODD) {
                answer(x.come(a, b));
                answer(x.tell(a, b));
                for (int c : ODD) {
                    answer(x.sheet(a, b, c));
                }
            }
            answer(x.undo());
        }
        for (int a : ODD) {
            answer(x.drop(a));
        }
    }

    private static void theLastCall() {
        says("An object is used for at most 512 calls after it has been made");
        MixRounds x = new MixRounds();
        for (int call = 1; call <= 510; call++) {
            due(0, x.tick());
        }
        due(6, x.count(UNDOABLE));
        due(0, x.come(0, 0));
    }

    public static void main(String[] args) {
        says("No call may ever throw or fail to end, for any arguments in any state");
        for (int turn = 0; turn < 2; turn++) {
            for (MixRounds x : kinds()) {
                if (turn == 1) {
                    changing(x);
                }
                withOneOrTwo(x);
                withMore(x);
                copies(x);
                withNone(x);
                changing(x);
                withNone(x);
            }
        }
        due(0, sum == 0 ? 1 : 0);
        theLastCall();
        end();
    }
}
