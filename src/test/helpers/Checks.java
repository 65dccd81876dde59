/** What the tests inherit: a check of one answer, objects with a system loaded, and the end of a test. */
abstract class Checks {
    static final int INVALID = ConfinementAnalyzer.INVALID_ARGUMENT;
    static final int ILLEGAL = ConfinementAnalyzer.ILLEGAL_STATE;
    static final int FULL = ConfinementAnalyzer.CAPACITY_EXCEEDED;
    static final int NONE = ConfinementAnalyzer.NONE;
    static final int LOW = Integer.MIN_VALUE;
    static final int HIGH = Integer.MAX_VALUE;
    private static final int SHOWN = 40;
    private static int wrong = 0;

    static void due(String what, int got, int want) {
        if (got != want) {
            fault(what + " answered " + got + ", due is " + want);
        }
    }

    static void fault(String what) {
        wrong++;
        if (wrong <= SHOWN) {
            System.out.println(what);
        }
    }

    static void type(ConfinementAnalyzer c, String text) {
        for (int i = 0; i < text.length(); i++) {
            c.append(text.charAt(i));
        }
    }

    static ConfinementAnalyzer system(String text) {
        ConfinementAnalyzer c = new ConfinementAnalyzer();
        type(c, text);
        int objects = c.load();
        if (objects < 0) {
            fault("load() of " + text + " answered " + objects);
        }
        return c;
    }

    /** What load() of a new object answers for the text. */
    static int loaded(String text) {
        ConfinementAnalyzer c = new ConfinementAnalyzer();
        type(c, text);
        return c.load();
    }

    /** What load() answers for an error at the position. */
    static int errorAt(int position) {
        return -10 - position;
    }

    /** Ends the test, with exit code 1 if an answer was not as due. */
    static void end(String allWell) {
        System.out.println(wrong == 0 ? allWell : wrong + " answers are not as due");
        if (wrong != 0) {
            System.exit(1);
        }
    }
}
