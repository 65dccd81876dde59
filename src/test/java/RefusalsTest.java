import java.util.List;

/**
 * "A call that returns an error code changes nothing": each refused call is made on an object, and
 * all that can be seen of it behind that, its saved states too, is compared with an object to which
 * the call was not made. The same for the calls that only ask.
 */
public final class RefusalsTest extends Checks {
    private static void changesNothing(Settings.Setting setting, List<Call> calls) {
        for (int undos = 0; undos <= setting.depth(); undos++) {
            List<List<Integer>> before = Looks.all(setting.calls(), undos);
            for (Call call : calls) {
                List<List<Integer>> behind = Looks.all(c -> {
                    setting.calls().accept(c);
                    due(call.name() + " in " + setting.name(), call.make(c), call.want());
                }, undos);
                if (!before.equals(behind)) {
                    fault(call.name() + " in " + setting.name() + " changed something, seen after " + undos + " undos");
                }
            }
        }
        for (Call call : calls) {
            ConfinementAnalyzer c = new ConfinementAnalyzer();
            setting.calls().accept(c);
            due("undoDepth() before " + call.name(), c.undoDepth(), setting.depth());
            due(call.name() + " in " + setting.name(), call.make(c), call.want());
            due("undoDepth() behind " + call.name(), c.undoDepth(), setting.depth());
            due("the same again: " + call.name(), call.make(c), call.want());
        }
    }

    /** Wrong in every system: the object does not exist, or a value is out of its range. */
    private static List<Call> wrongEverywhere(int none) {
        return List.of(
                new Call("2: append(-1)", INVALID, c -> c.append(-1)),
                new Call("2: append(256)", INVALID, c -> c.append(256)),
                new Call("6: kind of no object", INVALID, c -> c.kind(none)),
                new Call("7: behaviour of no object", INVALID, c -> c.behaviour(none)),
                new Call("8: setBehaviour of no object", INVALID, c -> c.setBehaviour(none, 3)),
                new Call("8: setBehaviour(0, 16)", INVALID, c -> c.setBehaviour(0, 16)),
                new Call("8: setBehaviour(0, -1)", INVALID, c -> c.setBehaviour(0, -1)),
                new Call("9: setGroup of no object", INVALID, c -> c.setGroup(none, 3)),
                new Call("9: setGroup(0, 6)", INVALID, c -> c.setGroup(0, 6)),
                new Call("9: setGroup(0, -1)", INVALID, c -> c.setGroup(0, -1)),
                new Call("10: addReference without holder", INVALID, c -> c.addReference(none, 0)),
                new Call("10: addReference without object", INVALID, c -> c.addReference(0, none)),
                new Call("11: removeReference(-1)", INVALID, c -> c.removeReference(-1)),
                new Call("11: removeReference(10)", INVALID, c -> c.removeReference(10)),
                new Call("13: mayHold", INVALID, c -> c.mayHold(none, 0)),
                new Call("14: round", INVALID, c -> c.round(0, none)),
                new Call("15: rule", INVALID, c -> c.rule(none, 0)),
                new Call("16: partner", INVALID, c -> c.partner(0, none)),
                new Call("17: derivationSize", INVALID, c -> c.derivationSize(none, 0)),
                new Call("19: coarselyMayHold", INVALID, c -> c.coarselyMayHold(0, none)),
                new Call("20: forbid without holder", INVALID, c -> c.forbid(none, 0)),
                new Call("20: forbid without object", INVALID, c -> c.forbid(0, none)),
                new Call("21: permit without holder", INVALID, c -> c.permit(none, 0)),
                new Call("21: permit without object", INVALID, c -> c.permit(0, none)),
                new Call("24: give without x", INVALID, c -> c.give(none, 0, 0)),
                new Call("24: give without y", INVALID, c -> c.give(0, none, 0)),
                new Call("24: give without z", INVALID, c -> c.give(0, 1, none)),
                new Call("25: take without x", INVALID, c -> c.take(none, 0, 0)),
                new Call("25: take without y", INVALID, c -> c.take(0, none, 0)),
                new Call("25: take without z", INVALID, c -> c.take(0, 1, none)),
                new Call("26: open without x", INVALID, c -> c.open(none, 3, 2)),
                new Call("26: open without box", INVALID, c -> c.open(0, none, 2)),
                new Call("26: open without key", INVALID, c -> c.open(0, 3, none)),
                new Call("27: create without x", INVALID, c -> c.create(none, 4)),
                new Call("27: create without factory", INVALID, c -> c.create(0, none)),
                new Call("29: holdsInRun", INVALID, c -> c.holdsInRun(none, 0)));
    }

    private static List<Call> refusedInTheEmptySystem() {
        return List.of(
                new Call("11: removeReference(0)", INVALID, c -> c.removeReference(0)),
                new Call("30: undo", ILLEGAL, c -> c.undo()));
    }

    private static List<Call> refusedInTheOrdinarySystem() {
        return List.of(
                new Call("4: load of a begun text", errorAt(12), c -> c.load()),
                new Call("7: behaviour of a key", INVALID, c -> c.behaviour(2)),
                new Call("8: setBehaviour of a box", INVALID, c -> c.setBehaviour(3, 1)),
                new Call("8: setBehaviour of a factory", INVALID, c -> c.setBehaviour(4, 1)),
                new Call("8: the present behaviour", ILLEGAL, c -> c.setBehaviour(5, 10)),
                new Call("9: the present group of an agent", ILLEGAL, c -> c.setGroup(0, 0)),
                new Call("9: the present group of a factory", ILLEGAL, c -> c.setGroup(4, 4)),
                new Call("10: a key as holder", INVALID, c -> c.addReference(2, 0)),
                new Call("10: a box as holder", INVALID, c -> c.addReference(3, 0)),
                new Call("10: the first of the list", ILLEGAL, c -> c.addReference(0, 1)),
                new Call("10: the last of the list", ILLEGAL, c -> c.addReference(5, 5)),
                new Call("11: one behind the list", INVALID, c -> c.removeReference(6)),
                new Call("14: round of none", NONE, c -> c.round(2, 0)),
                new Call("15: rule of none", NONE, c -> c.rule(2, 0)),
                new Call("16: partner of none", NONE, c -> c.partner(2, 0)),
                new Call("16: partner of an initial one", NONE, c -> c.partner(0, 1)),
                new Call("17: derivationSize of none", NONE, c -> c.derivationSize(2, 0)),
                new Call("20: forbid again", ILLEGAL, c -> c.forbid(1, 2)),
                new Call("21: permit what is not forbidden", ILLEGAL, c -> c.permit(2, 1)));
    }

    private static List<Call> refusedRunsInTheOrdinarySystem() {
        return List.of(
                new Call("24: x does not give", INVALID, c -> c.give(5, 1, 0)),
                new Call("24: y does not keep", INVALID, c -> c.give(0, 5, 0)),
                new Call("24: y is a key", INVALID, c -> c.give(0, 2, 0)),
                new Call("24: z is not held", ILLEGAL, c -> c.give(0, 1, 3)),
                new Call("25: x does not take", INVALID, c -> c.take(0, 5, 3)),
                new Call("25: y does not answer", INVALID, c -> c.take(5, 0, 1)),
                new Call("25: y does not hold z", ILLEGAL, c -> c.take(5, 5, 0)),
                new Call("26: x does not take", INVALID, c -> c.open(0, 3, 2)),
                new Call("26: box and key turned about", INVALID, c -> c.open(5, 2, 3)),
                new Call("26: the key is not held", ILLEGAL, c -> c.open(5, 3, 2)),
                new Call("27: x does not take", INVALID, c -> c.create(0, 4)),
                new Call("27: no factory", INVALID, c -> c.create(5, 3)));
    }

    private static List<Call> refusedInTheFullSystem() {
        return List.of(
                new Call("2: append to a full text", FULL, c -> c.append(32)),
                new Call("10: an eleventh reference", FULL, c -> c.addReference(8, 8)),
                new Call("10: listed in a full list", ILLEGAL, c -> c.addReference(5, 5)),
                new Call("10: no holder for a full list", INVALID, c -> c.addReference(4, 2)),
                new Call("20: a fifth requirement", FULL, c -> c.forbid(0, 0)),
                new Call("20: one of four requirements", ILLEGAL, c -> c.forbid(4, 2)),
                new Call("21: none of four requirements", ILLEGAL, c -> c.permit(0, 0)),
                new Call("24: y is not held", ILLEGAL, c -> c.give(1, 1, 0)),
                new Call("24: y does not keep", INVALID, c -> c.give(0, 6, 0)),
                new Call("25: y is not held", ILLEGAL, c -> c.take(1, 1, 0)),
                new Call("26: nothing is held", ILLEGAL, c -> c.open(1, 4, 3)),
                new Call("26: a key of another brand", INVALID, c -> c.open(0, 4, 2)),
                new Call("27: the factory is not held", ILLEGAL, c -> c.create(1, 5)));
    }

    private static List<Call> refusedWithAnUnendedText() {
        return List.of(
                new Call("2: append to a full text", FULL, c -> c.append(';')),
                new Call("4: load of a full text", errorAt(160), c -> c.load()));
    }

    private static List<Call> questions(int depth, int objects, int references) {
        return List.of(
                new Call("5: objectCount", objects, c -> c.objectCount()),
                new Call("12: referenceCount", references, c -> c.referenceCount()),
                new Call("31: undoDepth", depth, c -> c.undoDepth()));
    }

    private static List<Call> questionsToTheOrdinarySystem() {
        return List.of(
                new Call("6: kind", 3, c -> c.kind(4)),
                new Call("7: behaviour", 10, c -> c.behaviour(5)),
                new Call("13: mayHold", 1, c -> c.mayHold(5, 0)),
                new Call("14: round", 1, c -> c.round(5, 0)),
                new Call("15: rule", 4, c -> c.rule(5, 0)),
                new Call("16: partner", 4, c -> c.partner(5, 0)),
                new Call("17: derivationSize", 1, c -> c.derivationSize(5, 0)),
                new Call("18: lastRound", 1, c -> c.lastRound()),
                new Call("19: coarselyMayHold", 1, c -> c.coarselyMayHold(1, 2)),
                new Call("22: violationCount", 1, c -> c.violationCount()),
                new Call("23: smallestRepair", 1, c -> c.smallestRepair()),
                new Call("29: holdsInRun", 1, c -> c.holdsInRun(1, 2)));
    }

    public static void main(String[] args) {
        for (int none : new int[] {-1, 10, LOW, HIGH}) {
            changesNothing(Settings.EMPTY, wrongEverywhere(none));
            changesNothing(Settings.ORDINARY, wrongEverywhere(none));
            changesNothing(Settings.FULL, wrongEverywhere(none));
        }
        changesNothing(Settings.EMPTY, wrongEverywhere(0));
        changesNothing(Settings.ORDINARY, wrongEverywhere(6));
        changesNothing(Settings.EMPTY, refusedInTheEmptySystem());
        changesNothing(Settings.ORDINARY, refusedInTheOrdinarySystem());
        changesNothing(Settings.ORDINARY, refusedRunsInTheOrdinarySystem());
        changesNothing(Settings.FULL, refusedInTheFullSystem());
        changesNothing(Settings.FULL_UNENDED, refusedWithAnUnendedText());
        changesNothing(Settings.EMPTY, questions(0, 0, 0));
        changesNothing(Settings.ORDINARY, questions(3, 6, 6));
        changesNothing(Settings.FULL, questions(5, 10, 10));
        changesNothing(Settings.ORDINARY, questionsToTheOrdinarySystem());
        end("refused calls change nothing");
    }
}
