import java.util.ArrayList;
import java.util.List;
import java.util.function.Consumer;

/**
 * Everything that calls can tell of an object, so that two objects can be compared. A look may change
 * the object that it looks at; each of them is done on an object of its own, which has been brought
 * there by the same calls. No look takes more than 201 calls, since an object is used for 512 at most.
 */
final class Looks {
    /** How many looks there are. */
    static final int COUNT = 15;
    private static final int OBJECTS = 10;

    private Looks() {
    }

    /** All that can be seen of objects that the calls make, after some calls of undo(), without undoDepth(). */
    static List<List<Integer>> all(Consumer<ConfinementAnalyzer> calls, int undos) {
        List<List<Integer>> seen = new ArrayList<>();
        for (int look = 0; look < COUNT; look++) {
            ConfinementAnalyzer c = new ConfinementAnalyzer();
            calls.accept(c);
            for (int i = 0; i < undos; i++) {
                c.undo();
            }
            List<Integer> answers = new ArrayList<>();
            look(look, c, answers);
            seen.add(answers);
        }
        return seen;
    }

    private static void look(int look, ConfinementAnalyzer c, List<Integer> seen) {
        switch (look) {
            case 0 -> counts(c, seen);
            case 1 -> finds(c, seen);
            case 2 -> causes(c, seen);
            case 3 -> heldAndForbidden(c, seen);
            case 4 -> text(c, seen);
            default -> listWithout(look - 5, c, seen);
        }
    }

    private static void counts(ConfinementAnalyzer c, List<Integer> seen) {
        seen.add(c.objectCount());
        seen.add(c.referenceCount());
        seen.add(c.lastRound());
        seen.add(c.violationCount());
        seen.add(c.smallestRepair());
        for (int object = -1; object <= OBJECTS; object++) {
            seen.add(c.kind(object));
            seen.add(c.behaviour(object));
        }
        for (int object = 0; object < OBJECTS; object++) {
            // Answers the group, or ILLEGAL_STATE for group 5.
            seen.add(c.setGroup(object, 5));
        }
    }

    private static void finds(ConfinementAnalyzer c, List<Integer> seen) {
        for (int pair = 0; pair < OBJECTS * OBJECTS; pair++) {
            seen.add(c.mayHold(pair / OBJECTS, pair % OBJECTS));
            seen.add(c.coarselyMayHold(pair / OBJECTS, pair % OBJECTS));
        }
    }

    private static void causes(ConfinementAnalyzer c, List<Integer> seen) {
        for (int pair = 0; pair < OBJECTS * OBJECTS; pair++) {
            seen.add(c.round(pair / OBJECTS, pair % OBJECTS));
            seen.add(c.derivationSize(pair / OBJECTS, pair % OBJECTS));
        }
    }

    private static void heldAndForbidden(ConfinementAnalyzer c, List<Integer> seen) {
        for (int pair = 0; pair < OBJECTS * OBJECTS; pair++) {
            seen.add(c.holdsInRun(pair / OBJECTS, pair % OBJECTS));
            seen.add(c.permit(pair / OBJECTS, pair % OBJECTS));
        }
        seen.add(c.restartRun());
    }

    /** A text that ends inside a statement is taken up there, so that all of it comes to be read. */
    private static void text(ConfinementAnalyzer c, List<Integer> seen) {
        seen.add(c.load());
        for (char sign : "3 2;".toCharArray()) {
            seen.add(c.append(sign));
        }
        seen.add(c.load());
        seen.add(c.clearText());
        for (int object = 0; object < OBJECTS; object++) {
            seen.add(c.kind(object));
            seen.add(c.behaviour(object));
        }
    }

    private static void listWithout(int index, ConfinementAnalyzer c, List<Integer> seen) {
        seen.add(c.removeReference(index));
        for (int pair = 0; pair < OBJECTS * OBJECTS; pair++) {
            seen.add(c.holdsInRun(pair / OBJECTS, pair % OBJECTS));
        }
    }
}
