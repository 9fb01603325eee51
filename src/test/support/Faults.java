/** What the tests that are no runs of calls share: whether something holds, and the end of the program. */
abstract class Faults {
    private static int wrong = 0;

    Faults() {
    }

    static void hold(boolean good, String what) {
        if (!good) {
            wrong++;
            System.out.println(what);
        }
    }

    /** Ends the program, with 1 if something did not hold. */
    static void end(String good) {
        System.out.println(wrong == 0 ? good : wrong + " faults");
        if (wrong != 0) {
            System.exit(1);
        }
    }
}
