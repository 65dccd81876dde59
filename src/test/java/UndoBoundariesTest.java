import java.util.ArrayDeque;
import java.util.Deque;
import java.util.List;

/**
 * Promises 30 and 31, and which calls save a state: "At most 5 states are saved; when a sixth is
 * saved, the oldest one is discarded."
 */
public final class UndoBoundariesTest extends Checks {
    private static final int MOST = 5;

    // ---- "Every successful call of .. saves the state that preceded it"

    private static List<Call> savingCalls() {
        return List.of(
                new Call("8: setBehaviour", 15, c -> c.setBehaviour(0, 0)),
                new Call("9: setGroup", 2, c -> c.setGroup(2, 5)),
                new Call("10: addReference", 9, c -> c.addReference(7, 7)),
                new Call("11: removeReference, the first", 7, c -> c.removeReference(0)),
                new Call("11: removeReference, the last", 7, c -> c.removeReference(7)),
                new Call("20: forbid", 3, c -> c.forbid(7, 7)),
                new Call("21: permit, the first", 1, c -> c.permit(0, 3)),
                new Call("21: permit, the last", 1, c -> c.permit(1, 0)),
                new Call("24: give", 1, c -> c.give(0, 1, 2)),
                new Call("24: give that answers 0", 0, c -> c.give(0, 0, 0)),
                new Call("25: take", 1, c -> c.take(0, 1, 3)),
                new Call("25: take that answers 0", 0, c -> c.take(0, 0, 0)),
                new Call("26: open", 1, c -> c.open(0, 4, 2)),
                new Call("26: open that answers 0", 0, c -> c.open(0, 5, 2)),
                new Call("27: create", 1, c -> c.create(0, 8)),
                new Call("27: create that answers 0", 0, c -> c.create(0, 6)));
    }

    /** The call, undone, leaves all as it was: the state, the saved states behind it, and the text. */
    private static void isUndone(Settings.Setting setting, Call call) {
        int saved = Math.min(setting.depth() + 1, MOST);
        for (int undos = 0; undos < saved; undos++) {
            List<List<Integer>> before = Looks.all(setting.calls(), undos);
            List<List<Integer>> behind = Looks.all(c -> {
                setting.calls().accept(c);
                due(call.name() + " in " + setting.name(), call.make(c), call.want());
                due("31: saved behind " + call.name(), c.undoDepth(), saved);
                due("30: undo of " + call.name(), c.undo(), saved - 1);
                due("31: left behind " + call.name(), c.undoDepth(), saved - 1);
            }, undos);
            if (!before.equals(behind)) {
                fault(call.name() + " in " + setting.name() + " is not undone, seen after " + undos + " undos more");
            }
        }
        ConfinementAnalyzer c = new ConfinementAnalyzer();
        setting.calls().accept(c);
        due(call.name() + " in " + setting.name(), call.make(c), call.want());
        undoAll(call.name(), c, saved);
    }

    private static void undoAll(String what, ConfinementAnalyzer c, int saved) {
        for (int left = saved - 1; left >= 0; left--) {
            due("30: undo behind " + what, c.undo(), left);
            due("31: undoDepth behind " + what, c.undoDepth(), left);
        }
        due("30: nothing left behind " + what, c.undo(), ILLEGAL);
        due("31: nothing left behind " + what, c.undoDepth(), 0);
    }

    private static void everySavingCall() {
        for (Call call : savingCalls()) {
            isUndone(Settings.READY, call);
            isUndone(Settings.READY_AND_SAVED, call);
        }
        isUndone(Settings.READY, new Call("28: restartRun", 8, c -> c.restartRun()));
        isUndone(Settings.READY_AND_SAVED, new Call("28: restartRun", 9, c -> c.restartRun()));
        isUndone(Settings.EMPTY, new Call("28: restartRun", 0, c -> c.restartRun()));
        isUndone(Settings.EMPTY, new Call("4: load of the empty text", 0, c -> c.load()));
    }

    /** load() empties the text, and undo() does not bring it back: "The text is not part of the state". */
    private static void undoneLoads() {
        for (Settings.Setting setting : List.of(Settings.READY, Settings.READY_AND_SAVED, Settings.FULL)) {
            Settings.Setting cleared = new Settings.Setting(setting.name() + " without a text", c -> {
                setting.calls().accept(c);
                c.clearText();
            }, setting.depth());
            isUndone(cleared, new Call("4: load of the empty text", 0, c -> c.load()));
            isUndone(cleared, new Call("4: load of an agent", 1, c -> {
                type(c, "agent0 0;");
                return c.load();
            }));
        }
        ConfinementAnalyzer c = new ConfinementAnalyzer();
        Settings.READY.calls().accept(c);
        due("4: load", c.load(), 2);
        due("2: the text is empty", c.append('x'), 1);
        due("30: undo", c.undo(), 3);
        due("5: the objects are there", c.objectCount(), 9);
        due("3: the text is as it was before undo", c.clearText(), 1);
    }

    // ---- calls that save nothing

    private static void nothingSaved() {
        ConfinementAnalyzer c = new ConfinementAnalyzer();
        due("2: append", c.append('k'), 1);
        due("31: append saves nothing", c.undoDepth(), 0);
        due("3: clearText", c.clearText(), 1);
        due("31: clearText saves nothing", c.undoDepth(), 0);
        due("30: nothing to undo", c.undo(), ILLEGAL);
        due("30: nor a second time", c.undo(), ILLEGAL);
        due("31: a refused undo saves nothing", c.undoDepth(), 0);
        due("28: restartRun", c.restartRun(), 0);
        due("30: undo", c.undo(), 0);
        due("31: undo saves nothing", c.undoDepth(), 0);
        due("30: undo cannot be undone", c.undo(), ILLEGAL);
    }

    // ---- the ring of five

    /** A number of saves, of undos and of saves again, each kept in a list beside it. */
    private static void savesAndUndos(int saves, int undos, int savesAgain) {
        ConfinementAnalyzer c = new ConfinementAnalyzer();
        type(c, "agent0 0;");
        c.load();
        Deque<Integer> kept = new ArrayDeque<>();
        // The state before the load has no agent.
        kept.addLast(INVALID);
        int behaviour = save(c, kept, saves, 0);
        for (int i = 0; i < undos; i++) {
            undoOne(c, kept);
        }
        save(c, kept, savesAgain, behaviour);
        for (int i = 0; i <= MOST; i++) {
            undoOne(c, kept);
        }
    }

    private static int save(ConfinementAnalyzer c, Deque<Integer> kept, int times, int from) {
        int behaviour = from;
        for (int i = 0; i < times && c.objectCount() > 0; i++) {
            behaviour++;
            kept.addLast(c.behaviour(0));
            if (kept.size() > MOST) {
                kept.removeFirst();
            }
            due("8: setBehaviour", c.setBehaviour(0, behaviour), kept.getLast());
            due("31: undoDepth", c.undoDepth(), kept.size());
        }
        return behaviour;
    }

    private static void undoOne(ConfinementAnalyzer c, Deque<Integer> kept) {
        int present = c.behaviour(0);
        boolean possible = !kept.isEmpty();
        int restored = possible ? kept.removeLast() : present;
        due("30: undo", c.undo(), possible ? kept.size() : ILLEGAL);
        due("30: the state is restored", c.behaviour(0), restored);
        due("31: undoDepth", c.undoDepth(), kept.size());
    }

    private static void everyWayRound() {
        for (int saves = 0; saves <= 7; saves++) {
            for (int undos = 0; undos <= 7; undos++) {
                for (int savesAgain = 0; savesAgain <= 7; savesAgain++) {
                    savesAndUndos(saves, undos, savesAgain);
                }
            }
        }
    }

    private static void sixthState() {
        ConfinementAnalyzer c = new ConfinementAnalyzer();
        for (int saves = 1; saves <= MOST; saves++) {
            due("28: restartRun", c.restartRun(), 0);
            due("31: undoDepth", c.undoDepth(), saves);
        }
        for (int saves = 6; saves <= 20; saves++) {
            due("28: restartRun", c.restartRun(), 0);
            due("31: never a sixth", c.undoDepth(), MOST);
        }
        undoAll("twenty restarts", c, MOST);
    }

    // ---- a saved state is not touched by what comes later

    private static void allOfTheState() {
        ConfinementAnalyzer c = new ConfinementAnalyzer();
        Settings.READY.calls().accept(c);
        due("24: give", c.give(0, 1, 2), 1);
        due("30: load another system", c.load(), 2);
        due("20: forbid in it", c.forbid(0, 0), 1);
        due("30: undo forbid", c.undo(), 4);
        due("22: its requirement is gone", c.permit(0, 0), ILLEGAL);
        due("30: undo load", c.undo(), 3);
        due("5: objects", c.objectCount(), 9);
        due("7: behaviour", c.behaviour(0), 15);
        due("12: references", c.referenceCount(), 8);
        due("21: the first requirement", c.forbid(0, 3), ILLEGAL);
        due("21: the second requirement", c.forbid(1, 0), ILLEGAL);
        due("29: the run", c.holdsInRun(1, 2), 1);
        due("28: and all of it", c.restartRun(), 9);
    }

    public static void main(String[] args) {
        everySavingCall();
        undoneLoads();
        nothingSaved();
        everyWayRound();
        sixthState();
        allOfTheState();
        end("the boundaries of undo hold");
    }
}
