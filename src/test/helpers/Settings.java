import java.util.function.Consumer;

/** Places from which the tests of refused, of asking and of saving calls start. */
final class Settings {
    private Settings() {
    }

    /** A number of calls that bring a new object somewhere, and the number of states that are saved there. */
    record Setting(String name, Consumer<ConfinementAnalyzer> calls, int depth) {
    }

    /** A new object, with nothing in it at all. */
    static final Setting EMPTY = new Setting("a new object", c -> { }, 0);

    /**
     * 0 gives, 1 keeps, 2 a key and 3 a box with agent 0 (brand 2), 4 a factory of agent 0, 5 takes
     * and answers. In the run agent 1 has been given the key, and a text has been begun.
     */
    static final Setting ORDINARY = new Setting("an ordinary system", Settings::makeOrdinary, 3);

    /** Ten objects, ten references, four requirements, five saved states and a valid text of 160 characters. */
    static final Setting FULL = new Setting("a full system", c -> makeFull(c, " ".repeat(151) + "agent0 0;"), 5);

    /** The same with a text that ends inside a statement. */
    static final Setting FULL_UNENDED = new Setting("a full system with an unended text",
            c -> makeFull(c, "agent0 0;" + " ".repeat(148) + "key"), 5);

    /** A system in which every call that saves a state can succeed, with one answer or another, and a valid text. */
    static final Setting READY = new Setting("a system that is ready", Settings::makeReady, 3);

    /** The same, a little later: five states are saved, and one has been discarded. */
    static final Setting READY_AND_SAVED = new Setting("a system with five saved states", Settings::makeReadyAndSaved, 5);

    private static void type(ConfinementAnalyzer c, String text) {
        for (int i = 0; i < text.length(); i++) {
            c.append(text.charAt(i));
        }
    }

    /** A setting that is not reached would test nothing. */
    private static void reach(int answer) {
        if (answer < 0) {
            throw new IllegalStateException("a call that leads to a setting answered " + answer);
        }
    }

    private static void makeOrdinary(ConfinementAnalyzer c) {
        type(c, "agent1 0;agent4 1;key2 2;box2 0 3;factory0 4;agent10 5;hold0 1;hold0 2;hold4 2;hold5 3;hold5 4;hold5 5;");
        reach(c.load());
        reach(c.give(0, 1, 2));
        reach(c.forbid(1, 2));
        type(c, "agent7 1;key");
    }

    /** 0 and 1 have all flags, 2 is a key, 3 the key of box 4 with key 2, 5 a factory of 1, 6 to 9 agents without flags. */
    private static void makeFull(ConfinementAnalyzer c, String text) {
        type(c, "agent15 0;agent15 1;key0 2;key3 3;box3 2 4;factory1 5;agent0 0;agent0 1;agent0 2;agent0 3;");
        reach(c.load());
        int[][] list = {{0, 1}, {0, 4}, {0, 3}, {5, 6}, {0, 5}, {6, 6}, {7, 8}, {9, 0}, {9, 9}, {5, 5}};
        for (int[] reference : list) {
            reach(c.addReference(reference[0], reference[1]));
        }
        reach(c.forbid(1, 2));
        reach(c.forbid(6, 6));
        reach(c.forbid(9, 9));
        reach(c.forbid(4, 2));
        reach(c.open(0, 4, 3));
        reach(c.give(0, 1, 0));
        type(c, text);
    }

    /** 0 and 1 have all flags, 4 and 5 are boxes (with key 3 and key 2) for key 2, 6 and 8 make 1 and 7. */
    private static void makeReady(ConfinementAnalyzer c) {
        type(c, "agent15 0;agent15 1;key1 2;key0 3;box1 3 4;box1 2 5;factory1 0;agent0 1;factory7 2;"
                + "hold0 0;hold0 1;hold0 2;hold0 4;hold0 5;hold0 6;hold0 8;hold1 3;");
        reach(c.load());
        reach(c.forbid(0, 3));
        reach(c.forbid(1, 0));
        type(c, "agent7 1;key3 2;");
    }

    private static void makeReadyAndSaved(ConfinementAnalyzer c) {
        makeReady(c);
        reach(c.setGroup(7, 3));
        reach(c.setBehaviour(7, 2));
        reach(c.give(0, 1, 0));
    }
}
