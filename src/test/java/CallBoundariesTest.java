/**
 * Promises 1 and 5 to 29 at their boundaries: the last value that is allowed and the first that is
 * not, the empty and the full list, and which error code is answered where several apply.
 */
public final class CallBoundariesTest extends Checks {
    private static final int LAST = 9;
    /** Agent 0 and agent 9 with a box, a key and a factory between them, all ten of them. */
    private static final String TEN = "agent0 0;box0 0 0;key0 0;factory0 0;key1 0;key1 0;key1 0;key1 0;factory0 0;agent0 0;";

    /** Numbers that name no object where there are as many objects; some of them would do if they wrapped around. */
    private static int[] noObjects(int count) {
        return new int[] {-1, -2, -10, count, count + 1, 10, 11, 16, 31, 32, 33, 64, 100, 256, 1 << 16,
            LOW, LOW + 1, HIGH, -HIGH};
    }

    // ---- promise 1: a system without objects, without requirements and with an empty text

    private static void emptySystem() {
        ConfinementAnalyzer c = new ConfinementAnalyzer();
        due("5: no objects", c.objectCount(), 0);
        due("12: no references", c.referenceCount(), 0);
        due("11: nothing to remove", c.removeReference(0), INVALID);
        due("18: no round", c.lastRound(), 0);
        due("22: no violation", c.violationCount(), 0);
        due("23: no repair", c.smallestRepair(), 0);
        due("31: nothing saved", c.undoDepth(), 0);
        due("30: nothing to undo", c.undo(), ILLEGAL);
        due("3: an empty text", c.clearText(), 0);
        due("31: still nothing saved", c.undoDepth(), 0);
        due("28: a run without references", c.restartRun(), 0);
        due("31: the restarted run is saved", c.undoDepth(), 1);
        for (int object : noObjects(0)) {
            namesNoObject(new ConfinementAnalyzer(), object);
        }
    }

    private static void namesNoObject(ConfinementAnalyzer c, int object) {
        due("6: kind(" + object + ")", c.kind(object), INVALID);
        due("7: behaviour(" + object + ")", c.behaviour(object), INVALID);
        due("8: setBehaviour(" + object + ", 1)", c.setBehaviour(object, 1), INVALID);
        due("9: setGroup(" + object + ", 1)", c.setGroup(object, 1), INVALID);
        namesNoPair(c, object, 0);
        namesNoPair(c, 0, object);
        namesNoPair(c, object, object);
    }

    private static void namesNoPair(ConfinementAnalyzer c, int holder, int object) {
        String pair = "(" + holder + ", " + object + ")";
        due("10: addReference" + pair, c.addReference(holder, object), INVALID);
        due("13: mayHold" + pair, c.mayHold(holder, object), INVALID);
        due("14: round" + pair, c.round(holder, object), INVALID);
        due("15: rule" + pair, c.rule(holder, object), INVALID);
        due("16: partner" + pair, c.partner(holder, object), INVALID);
        due("17: derivationSize" + pair, c.derivationSize(holder, object), INVALID);
        due("19: coarselyMayHold" + pair, c.coarselyMayHold(holder, object), INVALID);
        due("20: forbid" + pair, c.forbid(holder, object), INVALID);
        due("21: permit" + pair, c.permit(holder, object), INVALID);
        due("27: create" + pair, c.create(holder, object), INVALID);
        due("29: holdsInRun" + pair, c.holdsInRun(holder, object), INVALID);
    }

    /** Each number that names no object, in systems of one, two, nine and ten objects. */
    private static void numbersOfObjects() {
        String agents = "agent15 0;".repeat(10);
        for (int count : new int[] {1, 2, 9, 10}) {
            for (int object : noObjects(count)) {
                if (object >= 0 && object < count) {
                    continue;
                }
                ConfinementAnalyzer c = system(agents.substring(0, 10 * count) + "hold0 0;");
                namesNoObject(c, object);
                namesNoTriple(c, object, 0, 0);
                namesNoTriple(c, 0, object, 0);
                namesNoTriple(c, 0, 0, object);
                due("31: only the load is saved", c.undoDepth(), 1);
            }
        }
    }

    private static void namesNoTriple(ConfinementAnalyzer c, int x, int y, int z) {
        String triple = "(" + x + ", " + y + ", " + z + ")";
        due("24: give" + triple, c.give(x, y, z), INVALID);
        due("25: take" + triple, c.take(x, y, z), INVALID);
        due("26: open" + triple, c.open(x, y, z), INVALID);
    }

    private static void firstAndLastObject() {
        ConfinementAnalyzer c = system(TEN);
        due("5: ten objects", c.objectCount(), 10);
        due("6: the first", c.kind(0), 0);
        due("6: the last", c.kind(LAST), 0);
        due("6: the one before the last", c.kind(8), 3);
        due("7: the first", c.behaviour(0), 0);
        due("7: the last", c.behaviour(LAST), 0);
        due("8: the last", c.setBehaviour(LAST, 15), 0);
        due("7: the last is changed", c.behaviour(LAST), 15);
        due("7: the first is not", c.behaviour(0), 0);
        due("9: the last", c.setGroup(LAST, 5), 0);
        due("10: the last holds the last", c.addReference(LAST, LAST), 1);
        due("10: the first holds the first", c.addReference(0, 0), 2);
        due("13: the last holds the last", c.mayHold(LAST, LAST), 1);
        due("13: the first does not hold the last", c.mayHold(0, LAST), 0);
        due("13: the last does not hold the first", c.mayHold(LAST, 0), 0);
        due("20: the last", c.forbid(LAST, LAST), 1);
        due("22: the last", c.violationCount(), 1);
        due("21: the last", c.permit(LAST, LAST), 0);
        due("29: the last", c.holdsInRun(LAST, LAST), 1);
        due("24: the last gives itself itself", c.give(LAST, LAST, LAST), 0);
        due("25: the last takes from itself", c.take(LAST, LAST, LAST), 0);
    }

    // ---- promise 7: "if there is no such agent"; promise 8: "sum of flags, 0 to 15"

    private static void behavioursOfOtherKinds() {
        ConfinementAnalyzer c = system(TEN);
        for (int object = 1; object <= 8; object++) {
            due("7: no agent", c.behaviour(object), INVALID);
            for (int behaviour = 0; behaviour <= 15; behaviour += 5) {
                due("8: no agent", c.setBehaviour(object, behaviour), INVALID);
            }
        }
        due("31: only the load is saved", c.undoDepth(), 1);
    }

    private static void everyBehaviour() {
        for (int before = 0; before <= 15; before++) {
            for (int behaviour = 0; behaviour <= 15; behaviour++) {
                ConfinementAnalyzer c = system("agent" + before + " 0;");
                due("7: as loaded", c.behaviour(0), before);
                boolean present = before == behaviour;
                due("8: from " + before + " to " + behaviour, c.setBehaviour(0, behaviour), present ? ILLEGAL : before);
                due("7: as set", c.behaviour(0), behaviour);
                due("31: saved if it was set", c.undoDepth(), present ? 1 : 2);
            }
        }
        ConfinementAnalyzer c = system("agent15 0;agent0 0;");
        for (int bad : new int[] {-1, 16, 17, 31, -16, 255, 256, LOW, HIGH}) {
            due("8: behaviour " + bad, c.setBehaviour(0, bad), INVALID);
            due("8: behaviour " + bad, c.setBehaviour(1, bad), INVALID);
            due("8: neither agent nor behaviour " + bad, c.setBehaviour(2, bad), INVALID);
        }
        due("7: the first is as it was", c.behaviour(0), 15);
        due("7: the second is as it was", c.behaviour(1), 0);
    }

    // ---- promise 9: "group: 0 to 5"

    private static void everyGroup() {
        String[] systems = {"agent0 ", "agent0 0;box0 0 ", "key0 ", "agent0 0;factory0 "};
        for (String text : systems) {
            int object = text.indexOf(';') < 0 ? 0 : 1;
            for (int before = 0; before <= 5; before++) {
                for (int group = 0; group <= 5; group++) {
                    ConfinementAnalyzer c = system(text + before + ";");
                    boolean present = before == group;
                    due("9: from " + before + " to " + group, c.setGroup(object, group), present ? ILLEGAL : before);
                    due("9: it is there now", c.setGroup(object, group), ILLEGAL);
                    due("31: saved if it moved", c.undoDepth(), present ? 1 : 2);
                }
                ConfinementAnalyzer c = system(text + before + ";");
                for (int bad : new int[] {-1, 6, 7, 8, 255, LOW, HIGH}) {
                    due("9: group " + bad, c.setGroup(object, bad), INVALID);
                }
                due("9: it is still there", c.setGroup(object, before), ILLEGAL);
            }
        }
    }

    // ---- promise 10: "number of an agent or factory"; "if the list has this reference already"; "if the list has 10"

    private static void everyHolder() {
        String four = "agent0 0;box0 0 0;key0 0;factory0 0;";
        for (int holder = 0; holder < 4; holder++) {
            for (int object = 0; object < 4; object++) {
                boolean canHold = holder == 0 || holder == 3;
                ConfinementAnalyzer c = system(four);
                String pair = "(" + holder + ", " + object + ")";
                due("10: addReference" + pair, c.addReference(holder, object), canHold ? 1 : INVALID);
                due("10: again" + pair, c.addReference(holder, object), canHold ? ILLEGAL : INVALID);
                due("12: referenceCount", c.referenceCount(), canHold ? 1 : 0);
                due("13: mayHold" + pair, c.mayHold(holder, object), canHold ? 1 : 0);
                due("29: holdsInRun" + pair, c.holdsInRun(holder, object), canHold ? 1 : 0);
            }
        }
    }

    private static void fullList() {
        ConfinementAnalyzer c = system(TEN);
        for (int object = 0; object <= LAST; object++) {
            due("10: reference " + object, c.addReference(0, object), object + 1);
        }
        due("10: an eleventh", c.addReference(LAST, LAST), FULL);
        due("10: an eleventh of a factory", c.addReference(3, 0), FULL);
        due("10: listed comes before full, the first", c.addReference(0, 0), ILLEGAL);
        due("10: listed comes before full, the last", c.addReference(0, LAST), ILLEGAL);
        due("10: no holder comes before full", c.addReference(1, 0), INVALID);
        due("10: no object comes before full", c.addReference(LAST, 10), INVALID);
        due("12: ten", c.referenceCount(), 10);
        due("11: no index 10", c.removeReference(10), INVALID);
        due("11: no index -1", c.removeReference(-1), INVALID);
        due("11: index 9", c.removeReference(9), 9);
        due("11: it was the last", c.mayHold(0, LAST), 0);
        due("11: there is no index 9 now", c.removeReference(9), INVALID);
        due("10: there is room for one", c.addReference(LAST, LAST), 10);
        due("10: and for no other", c.addReference(0, LAST), FULL);
        due("11: index 0", c.removeReference(0), 9);
        due("11: it was the first", c.mayHold(0, 0), 0);
        due("10: removed ones may come back", c.addReference(0, 0), 10);
        due("20: forbid", c.forbid(0, 0), 1);
        due("10: behind all others", c.smallestRepair(), 512);
    }

    /** The list has a reference only if it was put there; a find or a run does not count. */
    private static void listedOnly() {
        ConfinementAnalyzer c = system("agent1 0;agent4 0;hold0 1;");
        due("24: held in the run", c.give(0, 1, 0), 1);
        due("13: found", c.mayHold(1, 0), 1);
        due("10: not listed", c.addReference(1, 0), 2);
        due("10: turned about", c.addReference(0, 0), 3);
        due("10: listed now", c.addReference(1, 0), ILLEGAL);
    }

    // ---- promise 11: "The references behind it in the list move up by one"

    private static void everyIndex() {
        for (int index = 0; index < 10; index++) {
            ConfinementAnalyzer c = system(TEN);
            for (int object = 0; object <= LAST; object++) {
                c.addReference(0, object);
            }
            due("11: removeReference(" + index + ")", c.removeReference(index), 9);
            int place = 0;
            for (int object = 0; object <= LAST; object++) {
                due("13: reference " + object, c.mayHold(0, object), object == index ? 0 : 1);
                if (object != index) {
                    c.forbid(0, object);
                    due("11: the place of " + object, c.smallestRepair(), 1 << place);
                    c.permit(0, object);
                    place++;
                }
            }
        }
    }

    private static void emptyList() {
        ConfinementAnalyzer c = system(TEN);
        for (int bad : new int[] {0, 1, -1, 9, 10, 32, LOW, HIGH}) {
            due("11: of an empty list", c.removeReference(bad), INVALID);
        }
        due("12: empty", c.referenceCount(), 0);
        due("18: nothing found", c.lastRound(), 0);
        due("28: nothing held", c.restartRun(), 0);
        due("10: the only one", c.addReference(LAST, 0), 1);
        due("11: not the second", c.removeReference(1), INVALID);
        due("11: the only one", c.removeReference(0), 0);
        due("11: empty again", c.removeReference(0), INVALID);
    }

    // ---- promises 13 to 18

    /** Agent 0 asks its way along a chain of agents that only answer: a round for each. */
    private static void longestChain() {
        ConfinementAnalyzer c = system("agent2 0;" + "agent8 0;".repeat(9));
        for (int agent = 0; agent < LAST; agent++) {
            due("10: the chain", c.addReference(agent, agent + 1), agent + 1);
        }
        for (int object = 1; object <= LAST; object++) {
            due("14: round(0, " + object + ")", c.round(0, object), object - 1);
            due("15: rule(0, " + object + ")", c.rule(0, object), object == 1 ? 0 : 2);
            due("16: partner(0, " + object + ")", c.partner(0, object), object == 1 ? NONE : object - 1);
            due("17: derivationSize(0, " + object + ")", c.derivationSize(0, object), object - 1);
        }
        due("18: lastRound", c.lastRound(), 8);
        due("11: the chain is cut", c.removeReference(8), 8);
        due("18: a round less", c.lastRound(), 7);
        due("14: not found any more", c.round(0, LAST), NONE);
        due("10: a shorter way", c.addReference(0, 8), 9);
        due("18: from both ends", c.lastRound(), 6);
    }

    /** The same chain turned about, so that what is found by one object is needed by those before it. */
    private static void longestChainTurnedAbout() {
        ConfinementAnalyzer c = system("agent2 0;" + "agent8 0;".repeat(9));
        due("10: the chain begins", c.addReference(0, LAST), 1);
        for (int agent = LAST; agent > 1; agent--) {
            due("10: the chain", c.addReference(agent, agent - 1), 11 - agent);
        }
        for (int object = 1; object <= LAST; object++) {
            due("14: round(0, " + object + ")", c.round(0, object), LAST - object);
            due("17: derivationSize(0, " + object + ")", c.derivationSize(0, object), LAST - object);
        }
        due("18: lastRound", c.lastRound(), 8);
        due("20: forbid the end", c.forbid(0, 1), 1);
        due("22: it is violated", c.violationCount(), 1);
        due("23: the first of nine", c.smallestRepair(), 1);
        due("20: forbid the reference to the second", c.forbid(2, 1), 2);
        due("23: the last breaks both", c.smallestRepair(), 1 << 8);
    }

    private static void neverFound() {
        ConfinementAnalyzer c = system("agent15 0;agent15 0;key0 0;box0 0 0;factory0 0;");
        for (int holder = 0; holder < 5; holder++) {
            for (int object = 0; object < 5; object++) {
                due("13: mayHold", c.mayHold(holder, object), 0);
                due("14: round", c.round(holder, object), NONE);
                due("15: rule", c.rule(holder, object), NONE);
                due("16: partner", c.partner(holder, object), NONE);
                due("17: derivationSize", c.derivationSize(holder, object), NONE);
                due("19: coarselyMayHold", c.coarselyMayHold(holder, object), 0);
                due("29: holdsInRun", c.holdsInRun(holder, object), 0);
            }
        }
        due("18: lastRound", c.lastRound(), 0);
    }

    /** An initial reference that a rule would yield too has no cause. */
    private static void initialReferences() {
        ConfinementAnalyzer c = system("agent5 0;hold0 0;agent4 0;hold0 1;hold1 0;");
        for (int[] pair : new int[][] {{0, 0}, {0, 1}, {1, 0}}) {
            due("14: round 0", c.round(pair[0], pair[1]), 0);
            due("15: rule 0", c.rule(pair[0], pair[1]), 0);
            due("16: no partner", c.partner(pair[0], pair[1]), NONE);
            due("17: nothing derived", c.derivationSize(pair[0], pair[1]), 0);
        }
        due("14: found later", c.round(1, 1), 1);
        due("16: partner 0", c.partner(1, 1), 0);
        due("18: lastRound", c.lastRound(), 1);
    }

    /** Each rule with its partner at the last number, and with itself where x and y are the same. */
    private static void lastPartners() {
        String eight = "key0 0;".repeat(8);
        ConfinementAnalyzer gift = system("agent4 0;" + eight + "agent1 0;hold9 0;");
        due("16: the giver is the last", gift.partner(0, LAST), LAST);
        ConfinementAnalyzer asked = system("agent2 0;" + eight + "agent8 0;hold0 9;hold9 9;hold9 8;");
        due("16: the one who answers is the last", asked.partner(0, 8), LAST);
        ConfinementAnalyzer opened = system("agent2 0;" + eight + "box0 0 0;hold0 9;hold0 8;");
        due("16: the box is the last", opened.partner(0, 0), LAST);
        ConfinementAnalyzer created = system("agent2 0;" + eight + "factory0 0;hold0 9;hold9 8;");
        due("16: the factory is the last", created.partner(0, 0), LAST);
        due("15: by rule 4", created.rule(0, 0), 4);
        due("16: the factory is the last", created.partner(0, 8), LAST);
        due("15: by rule 5", created.rule(0, 8), 5);
        ConfinementAnalyzer all = system("agent15 0;hold0 0;key0 0;hold0 1;");
        due("18: x and y the same yield nothing", all.lastRound(), 0);
    }

    /** Without the flag that a rule asks for it yields nothing, with it alone it does. */
    private static void flagsInTheAnalysis() {
        for (int behaviour = 0; behaviour <= 15; behaviour++) {
            int gives = behaviour & 1;
            int takes = behaviour >> 1 & 1;
            int keeps = behaviour >> 2 & 1;
            int answers = behaviour >> 3 & 1;
            String with = " with behaviour " + behaviour;
            due("13: a giver" + with, system("agent" + behaviour + " 0;agent4 0;hold0 1;").mayHold(1, 0), gives);
            due("13: a keeper" + with, system("agent1 0;agent" + behaviour + " 0;hold0 1;").mayHold(1, 0), keeps);
            String key = "key0 0;hold0 1;hold1 2;";
            due("13: a taker" + with, system("agent" + behaviour + " 0;agent8 0;" + key).mayHold(0, 2), takes);
            due("13: an answerer" + with, system("agent2 0;agent" + behaviour + " 0;" + key).mayHold(0, 2), answers);
            String box = "agent" + behaviour + " 0;key0 0;box0 0 0;hold0 1;hold0 2;";
            due("13: an opener" + with, system(box).mayHold(0, 0), takes);
            String factory = "agent" + behaviour + " 0;agent0 0;factory1 0;hold0 2;hold2 2;";
            due("13: a creator" + with, system(factory).mayHold(0, 1), takes);
            due("13: a product of one" + with, system(factory).mayHold(1, 2), takes);
        }
    }

    /** A box opens for a key of its brand alone, whatever else is held, object 0 among it. */
    private static void noKeyAmongThem() {
        ConfinementAnalyzer c = system("agent2 0;agent0 0;key0 0;key2 0;box1 1 0;box1 0 0;factory0 0;"
                + "hold0 0;hold0 2;hold0 3;hold0 4;hold0 5;hold0 6;");
        due("13: no key of the brand", c.mayHold(0, 1), 0);
        due("14: no key of the brand", c.round(0, 1), NONE);
        due("19: all are of one group", c.coarselyMayHold(0, 1), 1);
        ConfinementAnalyzer key = system("key0 0;agent2 1;agent0 2;box1 2 3;hold1 0;hold1 3;");
        due("13: object 0 is another key", key.mayHold(1, 2), 0);
        due("19: object 0 is another key", key.coarselyMayHold(1, 2), 0);
        due("20: forbid", key.forbid(1, 2), 1);
        due("23: nothing to repair", key.smallestRepair(), 0);
    }

    // ---- "Boxes and keys hold nothing; in particular, a box does not hold its content"

    private static void holdsNothing() {
        ConfinementAnalyzer c = system("agent15 0;box0 0 0;key0 0;factory0 0;hold0 0;hold0 1;hold0 2;hold0 3;hold3 3;");
        for (int holder = 1; holder <= 2; holder++) {
            for (int object = 0; object < 4; object++) {
                due("13: mayHold", c.mayHold(holder, object), 0);
                due("19: coarselyMayHold", c.coarselyMayHold(holder, object), 0);
                due("29: holdsInRun", c.holdsInRun(holder, object), 0);
                due("10: addReference", c.addReference(holder, object), INVALID);
                due("24: no gift to it", c.give(0, holder, object), INVALID);
                due("25: nothing taken from it", c.take(0, holder, object), INVALID);
            }
        }
        due("19: the factory holds its group", c.coarselyMayHold(3, 0), 1);
        due("13: but does not come to hold", c.mayHold(3, 0), 0);
    }

    // ---- promise 19, groups 0 and 5

    private static void coarseGroups() {
        for (int group = 0; group <= 5; group++) {
            for (int other = 0; other <= 5; other++) {
                ConfinementAnalyzer c = system("agent0 " + group + ";key0 0;agent0 " + other + ";key0 5;hold0 1;");
                boolean same = group == other;
                String pair = " of the groups " + group + " and " + other;
                due("19: a mate" + pair, c.coarselyMayHold(2, 1), same ? 1 : 0);
                due("19: itself" + pair, c.coarselyMayHold(0, 1), 1);
                due("19: a key of another group" + pair, c.coarselyMayHold(0, 3), 0);
                due("9: the key moves", c.setGroup(3, 0), 5);
                due("19: a mate of the key" + pair, c.coarselyMayHold(2, 3), same ? 1 : 0);
                due("13: not by the fine analysis", c.mayHold(2, 1), 0);
            }
        }
    }

    /** "applied as long as anything new arises": a chain that comes back to objects that were looked at before. */
    private static void coarseChains() {
        ConfinementAnalyzer c = system("agent2 0;agent8 1;agent8 2;agent8 3;key0 4;key0 5;hold0 3;hold3 2;hold2 1;hold1 4;");
        due("19: the end of the chain", c.coarselyMayHold(0, 4), 1);
        due("19: not against the chain", c.coarselyMayHold(1, 3), 0);
        due("19: not beside the chain", c.coarselyMayHold(0, 5), 0);
        due("9: a key comes beside the end", c.setGroup(5, 4), 5);
        due("19: it is reached now", c.coarselyMayHold(0, 5), 1);
        due("9: and goes away", c.setGroup(5, 5), 4);
        due("19: it is not reached any more", c.coarselyMayHold(0, 5), 0);
        due("9: agent 1 leaves", c.setGroup(1, 5), 1);
        due("19: agent 1 is one with the key", c.coarselyMayHold(0, 5), 1);
        ConfinementAnalyzer first = system("key0 1;agent0 0;key0 1;key0 2;hold1 0;");
        due("19: the group of object 0", first.coarselyMayHold(1, 2), 1);
        due("19: and no other", first.coarselyMayHold(1, 3), 0);
        due("19: nor its own", first.coarselyMayHold(1, 1), 0);
    }

    // ---- promises 20 to 22: "if there are 4 requirements"

    private static void fullRequirements() {
        ConfinementAnalyzer c = system(TEN);
        due("21: permit without requirements", c.permit(0, 0), ILLEGAL);
        due("20: the first", c.forbid(0, LAST), 1);
        due("20: turned about", c.forbid(LAST, 0), 2);
        due("20: a key and itself", c.forbid(2, 2), 3);
        due("20: a box and its content", c.forbid(1, 0), 4);
        due("20: a fifth", c.forbid(0, 0), FULL);
        due("20: existing comes before full, the first", c.forbid(0, LAST), ILLEGAL);
        due("20: existing comes before full, the last", c.forbid(1, 0), ILLEGAL);
        due("20: no holder comes before full", c.forbid(10, 0), INVALID);
        due("20: no object comes before full", c.forbid(0, -1), INVALID);
        due("21: no such requirement", c.permit(0, 0), ILLEGAL);
        due("21: no object comes first", c.permit(0, 10), INVALID);
        due("31: a state for each, and the load", c.undoDepth(), 5);
        due("21: permit", c.permit(LAST, 0), 3);
        due("20: there is room for one", c.forbid(0, 0), 4);
        due("20: and for no other", c.forbid(LAST, 0), FULL);
        int[][] left = {{0, LAST}, {2, 2}, {1, 0}, {0, 0}};
        for (int i = 0; i < 4; i++) {
            due("21: permit", c.permit(left[i][0], left[i][1]), 3 - i);
            due("21: it is gone", c.permit(left[i][0], left[i][1]), ILLEGAL);
        }
    }

    private static void violations() {
        ConfinementAnalyzer c = system("agent15 0;agent15 0;");
        int[][] pairs = {{0, 0}, {0, 1}, {1, 0}, {1, 1}};
        for (int i = 0; i < 4; i++) {
            due("20: forbid", c.forbid(pairs[i][0], pairs[i][1]), i + 1);
            due("22: none violated", c.violationCount(), 0);
            due("23: nothing to repair", c.smallestRepair(), 0);
        }
        due("10: one reference", c.addReference(0, 1), 1);
        due("22: all violated", c.violationCount(), 4);
        due("23: it must go", c.smallestRepair(), 1);
        for (int i = 0; i < 4; i++) {
            due("21: permit", c.permit(pairs[i][0], pairs[i][1]), 3 - i);
            due("22: one violation less", c.violationCount(), 3 - i);
        }
        due("23: nothing forbidden", c.smallestRepair(), 0);
    }

    // ---- promise 23: "0 if no requirement is violated"

    private static void repairsOfOne() {
        for (int index = 0; index <= LAST; index++) {
            ConfinementAnalyzer c = system(TEN);
            for (int object = 0; object <= LAST; object++) {
                c.addReference(0, object);
            }
            due("23: nothing forbidden", c.smallestRepair(), 0);
            due("20: forbid", c.forbid(0, index), 1);
            due("23: bit " + index, c.smallestRepair(), 1 << index);
            due("20: forbid what is not held", c.forbid(LAST, index), 2);
            due("23: still bit " + index, c.smallestRepair(), 1 << index);
            due("23: the list is as it was", c.referenceCount(), 10);
            due("23: nothing is saved", c.undoDepth(), 5);
        }
    }

    private static void repairsOfMany() {
        ConfinementAnalyzer four = system(TEN);
        for (int object = 0; object <= LAST; object++) {
            four.addReference(0, object);
        }
        four.forbid(0, 6);
        four.forbid(0, 7);
        four.forbid(0, 8);
        four.forbid(0, LAST);
        due("23: the last four", four.smallestRepair(), 0b1111000000);
        // Five givers that hold agent 0 and the key: of each two references one must go, the lower one will do.
        ConfinementAnalyzer pairs = system("agent4 0;key0 0;" + "agent1 0;".repeat(5));
        for (int giver = 2; giver <= 6; giver++) {
            pairs.addReference(giver, 0);
            pairs.addReference(giver, 1);
        }
        pairs.forbid(0, 1);
        due("23: one of each two", pairs.smallestRepair(), 0b0101010101);
        // Both ways to the key go through the last reference: one of the highest number before two lower ones.
        ConfinementAnalyzer last = system("agent2 0;agent8 0;key0 0;agent8 0;hold1 2;hold3 1;hold0 3;");
        last.forbid(0, 2);
        last.forbid(0, 1);
        due("23: the second breaks both", last.smallestRepair(), 0b010);
        last.forbid(0, 3);
        due("23: the third breaks all", last.smallestRepair(), 0b100);
    }

    /** Every rule that can bring object 0 and nothing else, in all three analyses. */
    private static void objectZeroAlone() {
        String[] systems = {
            "key0 0;agent4 1;agent1 2;hold1 1;hold1 2;hold2 0;hold2 1;",
            "key0 0;agent2 1;agent8 2;hold1 2;hold2 0;",
            "agent0 0;agent2 1;key0 2;box0 0 3;hold1 2;hold1 3;",
            "agent0 0;agent2 1;factory0 2;hold1 2;",
            "key0 0;agent0 1;agent2 2;factory1 3;hold2 3;hold3 0;hold2 1;"};
        for (int i = 0; i < systems.length; i++) {
            ConfinementAnalyzer c = system(systems[i]);
            due("13: by rule " + (i + 1), c.mayHold(1, 0), 1);
            due("15: by rule " + (i + 1), c.rule(1, 0), i + 1);
            due("18: by rule " + (i + 1), c.lastRound(), 1);
            due("19: by rule " + (i + 1), c.coarselyMayHold(1, 0), 1);
            due("20: forbid", c.forbid(1, 0), 1);
            due("22: by rule " + (i + 1), c.violationCount(), 1);
            due("23: by rule " + (i + 1), c.smallestRepair(), i == 0 ? 0b100 : 0b1);
        }
    }

    // ---- promises 24 to 27: the flags, the kinds, and what is held

    private static void flagsInTheRun() {
        for (int behaviour = 0; behaviour <= 15; behaviour++) {
            String agent = "agent" + behaviour + " 0;";
            boolean gives = (behaviour & 1) != 0;
            boolean takes = (behaviour & 2) != 0;
            boolean keeps = (behaviour & 4) != 0;
            boolean answers = (behaviour & 8) != 0;
            String with = " with behaviour " + behaviour;
            String held = "key0 0;hold0 1;hold1 2;hold0 2;";
            due("24: x" + with, system(agent + "agent4 0;" + held).give(0, 1, 0), gives ? 1 : INVALID);
            due("24: y" + with, system("agent1 0;" + agent + held).give(0, 1, 0), keeps ? 1 : INVALID);
            String taken = "key0 0;hold0 1;hold1 2;";
            due("25: x" + with, system(agent + "agent8 0;" + taken).take(0, 1, 2), takes ? 1 : INVALID);
            due("25: y" + with, system("agent2 0;" + agent + taken).take(0, 1, 2), answers ? 1 : INVALID);
            due("26: x" + with, system(agent + "key0 0;box0 0 0;hold0 1;hold0 2;").open(0, 2, 1), takes ? 1 : INVALID);
            due("27: x" + with, system(agent + "factory0 0;hold0 1;").create(0, 1), takes ? 1 : INVALID);
        }
    }

    /** One object of each kind, all flags, everything held: only the kind decides. */
    private static void kindsInTheRun() {
        String text = "agent15 0;box0 0 0;key0 0;factory0 0;"
                + "hold0 0;hold0 1;hold0 2;hold0 3;hold3 0;hold3 1;hold3 2;hold3 3;";
        for (int x = 0; x < 4; x++) {
            for (int y = 0; y < 4; y++) {
                for (int z = 0; z < 4; z++) {
                    String triple = "(" + x + ", " + y + ", " + z + ")";
                    boolean agents = x == 0 && y == 0;
                    due("24: give" + triple, system(text).give(x, y, z), agents ? 0 : INVALID);
                    due("25: take" + triple, system(text).take(x, y, z), agents ? 0 : INVALID);
                    boolean opens = x == 0 && y == 1 && z == 2;
                    due("26: open" + triple, system(text).open(x, y, z), opens ? 0 : INVALID);
                }
                due("27: create(" + x + ", " + y + ")", system(text).create(x, y), x == 0 && y == 3 ? 0 : INVALID);
            }
        }
    }

    private static void notHeldInTheRun() {
        ConfinementAnalyzer c = system("agent15 0;agent15 0;key0 0;box0 1 0;factory1 0;");
        due("24: nothing is held", c.give(0, 1, 0), ILLEGAL);
        due("24: not itself either", c.give(0, 0, 0), ILLEGAL);
        due("25: nothing is held", c.take(0, 1, 2), ILLEGAL);
        due("25: not itself either", c.take(0, 0, 0), ILLEGAL);
        due("26: nothing is held", c.open(0, 3, 2), ILLEGAL);
        due("27: nothing is held", c.create(0, 4), ILLEGAL);
        due("24: no z comes before not held", c.give(0, 1, 5), INVALID);
        due("25: no z comes before not held", c.take(0, 1, -1), INVALID);
        due("26: no key comes before not held", c.open(0, 3, 3), INVALID);
        due("27: no factory comes before not held", c.create(0, 3), INVALID);
        c.addReference(0, 3);
        due("26: the box alone", c.open(0, 3, 2), ILLEGAL);
        c.removeReference(0);
        c.addReference(0, 2);
        due("26: the key alone", c.open(0, 3, 2), ILLEGAL);
        due("24: z is held, y is not", c.give(0, 1, 2), ILLEGAL);
        c.addReference(1, 2);
        due("25: y holds z, x does not hold y", c.take(0, 1, 2), ILLEGAL);
        c.addReference(0, 1);
        due("24: y is held, z is not", c.give(0, 1, 3), ILLEGAL);
        due("25: x holds y, y does not hold z", c.take(0, 1, 3), ILLEGAL);
        due("25: y does not hold itself", c.take(0, 1, 1), ILLEGAL);
        due("25: y does not hold x", c.take(0, 1, 0), ILLEGAL);
        due("24: x need not hold itself", c.give(0, 1, 0), 1);
        due("24: y itself", c.give(0, 1, 1), 1);
        due("25: what the gift brought", c.take(0, 1, 0), 1);
        due("24: found in the analysis, not in the run", c.mayHold(1, 1), 1);
    }

    private static void createdAtOnce() {
        // Factory 9 holds all objects; agent 0 holds nothing but the factory, and makes agent 1.
        ConfinementAnalyzer c = system("agent2 0;agent0 0;" + "key0 0;".repeat(7) + "factory1 0;");
        c.addReference(0, LAST);
        for (int object = 1; object <= LAST; object++) {
            c.addReference(LAST, object);
        }
        due("12: ten references", c.referenceCount(), 10);
        due("27: the product, and nine for it", c.create(0, LAST), 10);
        due("27: nothing new", c.create(0, LAST), 0);
        due("28: twenty in all", c.restartRun(), 20);
        due("27: anew", c.create(0, LAST), 10);
        ConfinementAnalyzer empty = system("agent2 0;factory0 0;hold0 1;");
        due("27: a factory that holds nothing", empty.create(0, 1), 1);
        due("27: nothing new", empty.create(0, 1), 0);
        ConfinementAnalyzer self = system("agent2 0;factory0 0;hold0 1;hold1 0;hold1 1;");
        due("27: the product is x, which it gets once", self.create(0, 1), 1);
    }

    // ---- promise 28: "the number of references that the run had"

    private static void fullRun() {
        ConfinementAnalyzer c = system("agent5 0;".repeat(10));
        due("28: a run without references", c.restartRun(), 0);
        for (int object = 0; object <= LAST; object++) {
            c.addReference(0, object);
        }
        for (int y = 1; y <= LAST; y++) {
            for (int z = 0; z <= LAST; z++) {
                due("24: give(0, " + y + ", " + z + ")", c.give(0, y, z), 1);
            }
        }
        due("29: the last to the last", c.holdsInRun(LAST, LAST), 1);
        due("28: all there can be", c.restartRun(), 100);
        due("28: the initial ones", c.restartRun(), 10);
        due("29: held at the start", c.holdsInRun(0, LAST), 1);
        due("29: not held at the start", c.holdsInRun(LAST, 0), 0);
        due("13: but may be", c.mayHold(LAST, 0), 1);
    }

    /** A call at the end of the 512 that an object is used for. */
    private static void lastCall() {
        ConfinementAnalyzer c = system("agent15 0;hold0 0;");
        for (int call = 20; call <= 512; call++) {
            due("31: call " + call, call % 2 == 0 ? c.give(0, 0, 0) : c.undo(), call % 2 == 0 ? 0 : 1);
        }
    }

    public static void main(String[] args) {
        emptySystem();
        numbersOfObjects();
        firstAndLastObject();
        behavioursOfOtherKinds();
        everyBehaviour();
        everyGroup();
        everyHolder();
        fullList();
        listedOnly();
        everyIndex();
        emptyList();
        longestChain();
        longestChainTurnedAbout();
        neverFound();
        initialReferences();
        lastPartners();
        flagsInTheAnalysis();
        noKeyAmongThem();
        holdsNothing();
        coarseGroups();
        coarseChains();
        fullRequirements();
        violations();
        repairsOfOne();
        repairsOfMany();
        objectZeroAlone();
        flagsInTheRun();
        kindsInTheRun();
        notHeldInTheRun();
        createdAtOnce();
        fullRun();
        lastCall();
        end("the boundaries of the calls hold");
    }
}
