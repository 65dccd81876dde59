/** The four examples of the document, call by call. */
public final class ExamplesTest extends Checks {
    private static void append(ConfinementAnalyzer c, String text) {
        for (int i = 0; i < text.length(); i++) {
            due("append(" + (int) text.charAt(i) + ")", c.append(text.charAt(i)), i + 1);
        }
    }

    private static void agentThatHoldsItself() {
        ConfinementAnalyzer c = new ConfinementAnalyzer();
        append(c, "agent3 0;");
        due("1: load()", c.load(), 1);
        due("1: addReference(0, 0)", c.addReference(0, 0), 1);
        due("1: mayHold(0, 0)", c.mayHold(0, 0), 1);
        due("1: round(0, 0)", c.round(0, 0), 0);
        due("1: rule(0, 0)", c.rule(0, 0), 0);
        due("1: lastRound()", c.lastRound(), 0);
    }

    private static void keyHoldsNothing() {
        ConfinementAnalyzer c = new ConfinementAnalyzer();
        append(c, "key0 0;");
        due("2: load()", c.load(), 1);
        due("2: addReference(0, 0)", c.addReference(0, 0), -1);
        due("2: forbid(0, 0)", c.forbid(0, 0), 1);
        due("2: violationCount()", c.violationCount(), 0);
        due("2: smallestRepair()", c.smallestRepair(), 0);
        due("2: restartRun()", c.restartRun(), 0);
        due("2: undo()", c.undo(), 2);
    }

    private static void boxWithoutContent() {
        ConfinementAnalyzer c = new ConfinementAnalyzer();
        append(c, "box0 0 0;");
        due("3: load()", c.load(), -15);
        due("3: clearText()", c.clearText(), 9);
        due("3: objectCount()", c.objectCount(), 0);
    }

    private static void rulesInARun() {
        ConfinementAnalyzer c = new ConfinementAnalyzer();
        append(c, "agent15 5;");
        due("4: load()", c.load(), 1);
        due("4: addReference(0, 0)", c.addReference(0, 0), 1);
        due("4: give(0, 0, 0)", c.give(0, 0, 0), 0);
        due("4: take(0, 0, 0)", c.take(0, 0, 0), 0);
        due("4: addReference(0, 0)", c.addReference(0, 0), -2);
    }

    public static void main(String[] args) {
        agentThatHoldsItself();
        keyHoldsNothing();
        boxWithoutContent();
        rulesInARun();
        end("the examples hold");
    }
}
