/** For each promise: ordinary inputs, the edges that the document names, and wrong inputs. */
public final class PromisesTest extends Checks {
    private static void newObject() {
        ConfinementAnalyzer c = new ConfinementAnalyzer();
        due("1: objectCount", c.objectCount(), 0);
        due("1: referenceCount", c.referenceCount(), 0);
        due("1: violationCount", c.violationCount(), 0);
        due("1: smallestRepair", c.smallestRepair(), 0);
        due("1: lastRound", c.lastRound(), 0);
        due("1: undoDepth", c.undoDepth(), 0);
        due("1: undo", c.undo(), ILLEGAL);
        due("1: kind", c.kind(0), INVALID);
        due("1: mayHold", c.mayHold(0, 0), INVALID);
        due("1: clearText", c.clearText(), 0);
        due("1: restartRun", c.restartRun(), 0);
    }

    private static void appending() {
        ConfinementAnalyzer c = new ConfinementAnalyzer();
        due("2: append(0)", c.append(0), 1);
        due("2: append(255)", c.append(255), 2);
        for (int bad : new int[] {-1, 256, LOW, HIGH}) {
            due("2: append(" + bad + ")", c.append(bad), INVALID);
        }
        for (int i = 3; i <= 160; i++) {
            due("2: append to " + i, c.append(32), i);
        }
        due("2: append to a full text", c.append(32), FULL);
        due("2: wrong before full", c.append(256), INVALID);
        due("2: the text is as it was", c.clearText(), 160);
    }

    private static void clearing() {
        ConfinementAnalyzer c = new ConfinementAnalyzer();
        type(c, "agent");
        due("3: clearText", c.clearText(), 5);
        due("3: clearText again", c.clearText(), 0);
        due("3: append begins anew", c.append('k'), 1);
        due("3: no undo", c.undoDepth(), 0);
    }

    private static void loading() {
        due("4: no statement", loaded(""), 0);
        due("4: spaces alone", loaded("   "), 0);
        due("4: all kinds", loaded("agent 15 0;box 3 0 5;key 0 1;factory 0 2;hold 3 1;"), 4);
        due("4: few spaces", loaded("agent3 0;box0 0 0;hold0 1;"), 2);
        due("4: many spaces", loaded("  agent  3  0  ;  hold  0  0  ;  "), 1);
        due("4: ten objects", loaded("key0 0;key0 0;key0 0;key0 0;key0 0;key0 0;key0 0;key0 0;key0 0;key0 0;"), 10);
        due("4: a box in a box", loaded("key0 0;box0 0 0;box0 1 0;"), 3);
        ConfinementAnalyzer c = system("agent15 0;hold0 0;");
        c.forbid(0, 0);
        due("4: give before load", c.give(0, 0, 0), 0);
        type(c, "agent7 1;agent4 1;hold0 1;");
        due("4: a second load", c.load(), 2);
        due("4: requirements are removed", c.violationCount(), 0);
        due("4: forbid counts from 1", c.forbid(0, 0), 1);
        due("4: the text is empty", c.clearText(), 0);
        due("4: the run is the new one", c.holdsInRun(0, 0), 0);
        due("4: the run has the list", c.holdsInRun(0, 1), 1);
    }

    private static void loadErrors() {
        String agents = "agent0 0;agent0 0;agent0 0;agent0 0;";
        String keys = "key0 0;key0 0;key0 0;key0 0;key0 0;key0 0;key0 0;key0 0;key0 0;key0 0;";
        String holds = "hold0 0;hold0 1;hold0 2;hold0 3;hold1 0;hold1 1;hold1 2;hold1 3;hold2 0;hold2 1;";
        due("4: an eleventh object", loaded(keys + " agent0 0;"), -10 - 71);
        due("4: an eleventh hold", loaded(agents + holds + "hold2 2;"), -10 - 116);
        due("4: ten holds", loaded(agents + holds), 4);
        due("4: a second equal hold", loaded("agent0 0;hold0 0;hold 0 0;"), -10 - 24);
        due("4: unknown word", loaded("agents 0 0;"), -10);
        due("4: upper case", loaded(" Agent 0 0;"), -11);
        due("4: a lone semicolon", loaded("agent0 0;;"), -19);
        due("4: a number first", loaded("3"), -10);
        due("4: ends after a word", loaded("agent"), -15);
        due("4: ends after spaces", loaded("agent  "), -17);
        due("4: ends before the semicolon", loaded("agent0 0"), -18);
        due("4: word for number", loaded("agent agent"), -16);
        due("4: missing number", loaded("agent0;"), -16);
        due("4: one number too many", loaded("agent0 0 0;"), -19);
        due("4: behaviour 16", loaded("agent16 0;"), -15);
        due("4: three digits", loaded("agent100 0;"), -15);
        due("4: two numbers run together", loaded("agent30;"), -15);
        due("4: leading zero", loaded("agent00 0;"), -15);
        due("4: leading zero of a group", loaded("agent0 05;"), -17);
        due("4: group 6", loaded("agent0 6;"), -17);
        due("4: brand 4 of a box", loaded("key0 0;box4 0 0;"), -20);
        due("4: brand 4 of a key", loaded("key4 0;"), -13);
        due("4: a box in itself", loaded("box0 0 0;"), -15);
        due("4: group of a box", loaded("key0 0;box0 0 6;"), -24);
        due("4: group of a key", loaded("key0 6;"), -15);
        due("4: group of a factory", loaded("agent0 0;factory0 6;"), -28);
        due("4: z is a letter", loaded("agentz0 0;"), -10);
        due("4: the sign behind z is none", loaded("agent{0 0;"), -15);
        due("4: the sign before a is none", loaded("agent`0 0;"), -15);
        due("4: the sign behind 9 is no digit", loaded("agent9:0;"), -16);
        due("4: the sign before 0 is no digit", loaded("agent9/0;"), -16);
        due("4: a word of the same length", loaded("hola0 0;"), -10);
        due("4: a word with another first letter", loaded("bgent0 0;"), -10);
        due("4: product is no agent", loaded("key0 0;factory0 0;"), -24);
        due("4: product is not there", loaded("factory0 0;"), -17);
        due("4: holder is a key", loaded("key0 0;hold0 0;"), -21);
        due("4: holder is not there", loaded("agent0 0;hold1 0;"), -23);
        due("4: held is not there", loaded("agent0 0;hold0 1;"), -25);
        due("4: a tab", loaded("agent\t0 0;"), -15);
        due("4: a minus sign", loaded("agent-1 0;"), -15);
        due("4: code 0", loaded("agent0 0;" + (char) 0), -19);
        due("4: code 255", loaded((char) 255 + "agent0 0;"), -10);
        ConfinementAnalyzer c = system("agent1 0;");
        type(c, "key0 0;key0");
        due("4: error", c.load(), -21);
        due("4: an error changes no object", c.kind(0), 0);
        due("4: an error changes no count", c.objectCount(), 1);
        due("4: an error saves nothing", c.undoDepth(), 1);
        type(c, " 0;");
        due("4: the text was kept", c.load(), 2);
    }

    private static void objects() {
        ConfinementAnalyzer c = system("agent9 0;box1 0 1;key1 2;factory0 3;agent0 0;");
        due("5: objectCount", c.objectCount(), 5);
        for (int i = 0; i < 5; i++) {
            due("6: kind(" + i + ")", c.kind(i), i % 4);
        }
        due("7: behaviour(0)", c.behaviour(0), 9);
        due("7: behaviour(4)", c.behaviour(4), 0);
        for (int bad : new int[] {-1, 5, 10, LOW, HIGH}) {
            due("6: kind(" + bad + ")", c.kind(bad), INVALID);
            due("7: behaviour(" + bad + ")", c.behaviour(bad), INVALID);
        }
        for (int other = 1; other < 4; other++) {
            due("7: behaviour(" + other + ")", c.behaviour(other), INVALID);
        }
    }

    private static void settingBehaviour() {
        ConfinementAnalyzer c = system("agent1 0;agent4 0;key0 0;factory0 0;hold0 1;");
        due("8: a run first", c.give(0, 1, 0), 1);
        due("8: present", c.setBehaviour(0, 1), ILLEGAL);
        due("8: 16", c.setBehaviour(0, 16), INVALID);
        due("8: -1", c.setBehaviour(0, -1), INVALID);
        due("8: a key", c.setBehaviour(2, 0), INVALID);
        due("8: a factory", c.setBehaviour(3, 0), INVALID);
        due("8: not there", c.setBehaviour(4, 0), INVALID);
        due("8: negative", c.setBehaviour(LOW, 0), INVALID);
        due("8: errors save nothing", c.undoDepth(), 2);
        due("8: errors leave the run", c.holdsInRun(1, 0), 1);
        due("8: may hold before", c.mayHold(1, 0), 1);
        due("8: setBehaviour", c.setBehaviour(0, 0), 1);
        due("8: behaviour", c.behaviour(0), 0);
        due("8: the run starts again", c.holdsInRun(1, 0), 0);
        due("8: the analysis is new", c.mayHold(1, 0), 0);
        due("8: to 15", c.setBehaviour(0, 15), 0);
        due("8: saved", c.undoDepth(), 4);
    }

    private static void settingGroup() {
        ConfinementAnalyzer c = system("agent1 0;agent4 5;key0 2;hold0 1;");
        due("9: a run first", c.give(0, 1, 0), 1);
        due("9: present", c.setGroup(0, 0), ILLEGAL);
        due("9: 6", c.setGroup(0, 6), INVALID);
        due("9: -1", c.setGroup(0, -1), INVALID);
        due("9: not there", c.setGroup(3, 0), INVALID);
        due("9: negative", c.setGroup(-1, 0), INVALID);
        due("9: errors save nothing", c.undoDepth(), 2);
        due("9: coarse before", c.coarselyMayHold(0, 2), 0);
        due("9: a key moves", c.setGroup(2, 5), 2);
        due("9: the run starts again", c.holdsInRun(1, 0), 0);
        due("9: coarse after", c.coarselyMayHold(0, 2), 1);
        due("9: moves back", c.setGroup(2, 0), 5);
        due("9: saved", c.undoDepth(), 4);
    }

    private static void addingReferences() {
        ConfinementAnalyzer c = system("agent1 0;box0 0 0;key0 0;factory0 0;agent4 0;hold0 4;");
        due("10: a run first", c.give(0, 4, 0), 1);
        due("10: box holds", c.addReference(1, 0), INVALID);
        due("10: key holds", c.addReference(2, 0), INVALID);
        due("10: no holder", c.addReference(5, 0), INVALID);
        due("10: no object", c.addReference(0, 5), INVALID);
        due("10: negative holder", c.addReference(-1, 0), INVALID);
        due("10: negative object", c.addReference(0, -1), INVALID);
        due("10: listed already", c.addReference(0, 4), ILLEGAL);
        due("10: errors leave the run", c.holdsInRun(4, 0), 1);
        due("10: a factory holds itself", c.addReference(3, 3), 2);
        due("10: the run starts again", c.holdsInRun(4, 0), 0);
        due("10: the run has it", c.holdsInRun(3, 3), 1);
        due("10: found in the analysis alone", c.addReference(4, 0), 3);
        due("10: it is initial now", c.round(4, 0), 0);
        for (int i = 0; i < 4; i++) {
            due("10: addReference(0, " + i + ")", c.addReference(0, i), 4 + i);
        }
        for (int i = 0; i < 3; i++) {
            due("10: addReference(3, " + i + ")", c.addReference(3, i), 8 + i);
        }
        due("10: an eleventh", c.addReference(4, 4), FULL);
        due("10: listed before full", c.addReference(3, 2), ILLEGAL);
        due("10: wrong before full", c.addReference(1, 1), INVALID);
        due("12: referenceCount", c.referenceCount(), 10);
    }

    private static void removingReferences() {
        ConfinementAnalyzer c = system("agent1 0;agent4 0;agent0 0;hold0 0;hold0 1;hold0 2;");
        due("12: referenceCount", c.referenceCount(), 3);
        due("11: a run first", c.give(0, 1, 2), 1);
        for (int bad : new int[] {-1, 3, 10, LOW, HIGH}) {
            due("11: removeReference(" + bad + ")", c.removeReference(bad), INVALID);
        }
        due("11: errors leave the run", c.holdsInRun(1, 2), 1);
        due("11: the first one", c.removeReference(0), 2);
        due("11: the run starts again", c.holdsInRun(1, 2), 0);
        due("11: removed from the run", c.holdsInRun(0, 0), 0);
        due("11: not found", c.mayHold(0, 0), 0);
        due("11: forbid", c.forbid(1, 2), 1);
        due("11: the others have moved up", c.smallestRepair(), 1);
        due("11: the last one", c.removeReference(1), 1);
        due("11: the first is left", c.round(0, 1), 0);
        due("11: the requirement stays", c.forbid(1, 2), ILLEGAL);
        due("11: the only one", c.removeReference(0), 0);
        due("11: none left", c.removeReference(0), INVALID);
        due("12: referenceCount", c.referenceCount(), 0);
        due("12: undo", c.undo(), 4);
        due("12: referenceCount after undo", c.referenceCount(), 1);
    }

    /** Checks round, rule, partner and derivation size of one reference at once. */
    private static void found(ConfinementAnalyzer c, int a, int b, int round, int rule, int partner, int size) {
        String ref = "(" + a + ", " + b + ")";
        due("13: mayHold" + ref, c.mayHold(a, b), round == NONE ? 0 : 1);
        due("14: round" + ref, c.round(a, b), round);
        due("15: rule" + ref, c.rule(a, b), rule);
        due("16: partner" + ref, c.partner(a, b), partner);
        due("17: derivationSize" + ref, c.derivationSize(a, b), size);
    }

    private static void notFound(ConfinementAnalyzer c, int a, int b) {
        found(c, a, b, NONE, NONE, NONE, NONE);
    }

    private static void eachRule() {
        ConfinementAnalyzer give = system("agent1 0;agent4 0;key0 0;agent11 0;hold0 1;hold0 2;hold0 3;");
        found(give, 0, 1, 0, 0, NONE, 0);
        found(give, 1, 0, 1, 1, 0, 1);
        found(give, 1, 1, 1, 1, 0, 1);
        found(give, 1, 2, 1, 1, 0, 1);
        notFound(give, 3, 0);
        notFound(give, 2, 0);
        due("18: lastRound", give.lastRound(), 1);

        ConfinementAnalyzer take = system("agent2 0;agent8 0;key0 0;agent7 0;hold0 1;hold0 3;hold1 2;hold3 1;");
        found(take, 0, 2, 1, 2, 1, 1);
        notFound(take, 1, 0);
        notFound(take, 0, 0);

        ConfinementAnalyzer open = system("agent2 0;agent13 0;agent0 0;box2 2 0;key1 0;key2 0;"
                + "hold0 3;hold0 4;hold1 3;hold1 5;");
        notFound(open, 0, 2);
        notFound(open, 1, 2);
        notFound(open, 3, 2);
        due("13: another key", open.addReference(0, 5), 5);
        found(open, 0, 2, 1, 3, 3, 1);

        ConfinementAnalyzer create = system("agent2 0;agent0 0;factory1 0;key0 0;hold0 2;hold2 3;");
        found(create, 0, 1, 1, 4, 2, 1);
        found(create, 1, 3, 1, 5, 2, 1);
        notFound(create, 0, 3);
        notFound(create, 2, 1);
        due("13: no taker", create.setBehaviour(0, 13), 2);
        notFound(create, 0, 1);
        notFound(create, 1, 3);
        due("18: lastRound without a find", create.lastRound(), 0);
    }

    private static void orderOfCauses() {
        // Agent 3 could get key 4 by giving from 1 or 2, by asking 0, or from box 5.
        ConfinementAnalyzer c = system("agent8 0;agent1 0;agent1 0;agent6 0;key0 0;box0 4 0;key0 0;"
                + "hold0 4;hold1 3;hold1 4;hold2 3;hold2 4;hold3 0;hold3 5;hold3 6;");
        found(c, 3, 4, 1, 1, 1, 1);
        due("16: agent 1 gives no more", c.setBehaviour(1, 0), 1);
        found(c, 3, 4, 1, 1, 2, 1);
        due("15: agent 2 gives no more", c.setBehaviour(2, 0), 1);
        found(c, 3, 4, 1, 2, 0, 1);
        due("15: agent 0 is silent", c.setBehaviour(0, 0), 8);
        found(c, 3, 4, 1, 3, 5, 1);
        // Two boxes, two factories: the smaller number is the partner.
        ConfinementAnalyzer d = system("agent2 0;agent0 0;key0 0;box0 2 0;box0 2 0;key0 0;factory1 0;factory1 0;"
                + "hold0 7;hold0 6;hold0 5;hold0 4;hold0 3;hold7 1;hold6 1;");
        found(d, 0, 2, 1, 3, 3, 1);
        found(d, 0, 1, 1, 4, 6, 1);
        found(d, 1, 1, 1, 5, 6, 1);
        // Rule 4 comes before rule 5 where an agent makes itself.
        ConfinementAnalyzer e = system("agent2 0;factory0 0;hold0 1;hold1 0;");
        found(e, 0, 0, 1, 4, 1, 1);
        // The round decides before the rule: the gift from agent 1 comes too late.
        ConfinementAnalyzer f = system("agent1 0;agent5 0;agent6 0;agent8 0;key0 0;"
                + "hold0 1;hold0 4;hold1 2;hold2 3;hold3 4;");
        found(f, 2, 4, 1, 2, 3, 1);
        found(f, 1, 4, 1, 1, 0, 1);
    }

    private static void derivations() {
        // A chain of gifts; agent 2 also gives agent 1 what agent 3 then gets its references by.
        ConfinementAnalyzer c = system("agent1 0;agent5 0;agent5 0;agent4 0;key0 0;hold0 1;hold1 2;hold2 3;hold0 4;");
        found(c, 1, 4, 1, 1, 0, 1);
        found(c, 2, 4, 2, 1, 1, 2);
        found(c, 1, 3, 2, 1, 2, 2);
        found(c, 3, 4, 3, 1, 1, 4);
        found(c, 3, 0, 3, 1, 1, 4);
        found(c, 3, 3, 1, 1, 2, 1);
        due("18: lastRound", c.lastRound(), 3);
        // The box comes by way of reference (0, 1), the smaller key without it, the other key by way of it too.
        ConfinementAnalyzer d = system("agent2 0;agent8 0;agent8 0;agent0 0;box0 3 0;key0 0;key0 0;"
                + "hold0 2;hold2 1;hold1 4;hold1 6;hold2 5;");
        found(d, 0, 1, 1, 2, 2, 1);
        found(d, 0, 5, 1, 2, 2, 1);
        found(d, 0, 4, 2, 2, 1, 2);
        found(d, 0, 6, 2, 2, 1, 2);
        found(d, 0, 3, 3, 3, 4, 4);
        due("17: the smaller key is gone", d.removeReference(4), 4);
        found(d, 0, 3, 3, 3, 4, 4);
        due("17: the later key is initial", d.addReference(0, 6), 5);
        found(d, 0, 3, 3, 3, 4, 3);
        // The smaller key comes too late to be a premise.
        ConfinementAnalyzer e = system("agent2 0;agent8 0;agent8 0;key0 0;key0 0;agent0 0;box0 5 0;"
                + "hold0 1;hold1 2;hold2 3;hold0 4;hold0 6;");
        found(e, 0, 3, 2, 2, 2, 2);
        found(e, 0, 5, 1, 3, 6, 1);
        // The smallest taker for which the factory was found earlier is the premise of rule 5.
        ConfinementAnalyzer f = system("agent2 0;agent8 0;agent2 0;agent0 0;factory3 0;hold0 1;hold1 4;hold2 4;hold4 2;");
        found(f, 3, 2, 1, 5, 4, 1);
        found(f, 0, 4, 1, 2, 1, 1);
        due("17: the other taker is gone", f.removeReference(2), 3);
        found(f, 3, 2, 2, 5, 4, 2);
    }

    private static void askingForNoObject() {
        ConfinementAnalyzer c = system("agent15 0;agent15 0;hold0 1;");
        int[][] pairs = {{-1, 0}, {0, -1}, {2, 0}, {0, 2}, {LOW, 0}, {0, HIGH}, {32, 0}, {0, 32}, {9, 9}};
        for (int[] p : pairs) {
            due("13: mayHold", c.mayHold(p[0], p[1]), INVALID);
            due("14: round", c.round(p[0], p[1]), INVALID);
            due("15: rule", c.rule(p[0], p[1]), INVALID);
            due("16: partner", c.partner(p[0], p[1]), INVALID);
            due("17: derivationSize", c.derivationSize(p[0], p[1]), INVALID);
            due("19: coarselyMayHold", c.coarselyMayHold(p[0], p[1]), INVALID);
            due("20: forbid", c.forbid(p[0], p[1]), INVALID);
            due("21: permit", c.permit(p[0], p[1]), INVALID);
            due("29: holdsInRun", c.holdsInRun(p[0], p[1]), INVALID);
        }
        due("20: errors save nothing", c.undoDepth(), 1);
    }

    private static void coarse() {
        ConfinementAnalyzer c = system("agent0 0;key0 1;factory0 0;key0 0;key0 1;agent2 2;agent0 3;hold0 1;");
        due("19: itself", c.coarselyMayHold(0, 1), 1);
        due("19: not by the fine analysis", c.mayHold(2, 4), 0);
        due("19: a factory of the group", c.coarselyMayHold(2, 4), 1);
        due("19: another object of the group", c.coarselyMayHold(0, 4), 1);
        due("19: a key holds nothing", c.coarselyMayHold(3, 1), 0);
        due("19: another group of holders", c.coarselyMayHold(5, 1), 0);
        due("19: another group of objects", c.coarselyMayHold(0, 5), 0);
        due("19: agent 5 holds the factory", c.addReference(5, 2), 2);
        due("19: and so its group", c.coarselyMayHold(5, 3), 1);
        // Key 0 is of the group of the holder, and gets nothing all the same.
        ConfinementAnalyzer e = system("key0 0;agent0 0;key1 0;key1 1;hold1 2;");
        due("19: the first key holds nothing", e.coarselyMayHold(0, 2), 0);
        due("19: the holder gets the first key", e.coarselyMayHold(1, 0), 1);
        due("19: and not the key of another group", e.coarselyMayHold(1, 3), 0);
        // Agent 1 is made by factory 2, which holds what its group holds.
        ConfinementAnalyzer d = system("agent0 0;agent0 3;factory1 0;key0 1;agent2 2;hold0 3;hold4 2;");
        due("19: rule 5 behind rule 6", d.coarselyMayHold(1, 3), 1);
        due("13: but not without", d.mayHold(1, 3), 0);
        due("19: rule 6 alone is coarse", d.round(2, 3), NONE);
    }

    private static void requirements() {
        ConfinementAnalyzer c = system("agent1 0;agent4 0;key0 0;agent4 0;hold0 1;hold0 2;hold0 3;");
        due("20: forbid", c.forbid(1, 2), 1);
        due("20: a second time", c.forbid(1, 2), ILLEGAL);
        due("20: a key may be named", c.forbid(2, 1), 2);
        due("20: third", c.forbid(3, 2), 3);
        due("20: fourth", c.forbid(0, 2), 4);
        due("20: fifth", c.forbid(0, 0), FULL);
        due("20: existing before full", c.forbid(0, 2), ILLEGAL);
        due("20: wrong before full", c.forbid(4, 2), INVALID);
        due("22: violationCount", c.violationCount(), 3);
        due("21: no such requirement", c.permit(0, 0), ILLEGAL);
        due("21: permit the first", c.permit(1, 2), 3);
        due("21: permit again", c.permit(1, 2), ILLEGAL);
        due("22: violationCount after permit", c.violationCount(), 2);
        due("21: there is room again", c.forbid(0, 0), 4);
        due("21: permit the last", c.permit(0, 0), 3);
        due("21: permit one between", c.permit(3, 2), 2);
        due("21: the others are left", c.permit(0, 2), 1);
        due("22: not violated", c.violationCount(), 0);
        due("21: the last one left", c.permit(2, 1), 0);
        due("20: the run goes on", c.give(0, 1, 2), 1);
        due("20: forbid does not restart it", c.forbid(1, 2), 1);
        due("20: so it is held", c.holdsInRun(1, 2), 1);
        due("21: permit does not restart it", c.permit(1, 2), 0);
        due("21: so it is still held", c.holdsInRun(1, 2), 1);
    }

    private static void repairs() {
        ConfinementAnalyzer c = system("agent1 0;agent4 0;key0 0;agent1 0;hold3 1;hold3 2;hold0 1;hold0 2;");
        due("23: nothing forbidden", c.smallestRepair(), 0);
        c.forbid(2, 2);
        due("23: nothing violated", c.smallestRepair(), 0);
        c.forbid(1, 2);
        due("23: one of each two", c.smallestRepair(), 0b101);
        due("23: nothing is changed", c.violationCount(), 1);
        c.forbid(3, 2);
        due("23: the second must go", c.smallestRepair(), 0b110);
        c.forbid(0, 2);
        due("23: and the fourth", c.smallestRepair(), 0b1010);
        // Fewer references go before a smaller number.
        ConfinementAnalyzer d = system("agent1 0;agent4 0;key0 0;key0 0;key0 0;hold0 2;hold0 3;hold0 1;");
        d.forbid(1, 2);
        d.forbid(1, 3);
        due("23: one instead of two", d.smallestRepair(), 0b100);
        // A box and its key: the one that comes first goes; a key of another brand matters nothing.
        ConfinementAnalyzer f = system("agent2 0;agent0 0;key1 0;key0 0;box0 1 0;hold0 2;hold0 3;hold0 4;");
        f.forbid(0, 1);
        due("23: the key of the box", f.smallestRepair(), 0b10);
        // A factory: its holder, or what it holds.
        ConfinementAnalyzer g = system("agent2 0;agent0 0;key0 0;factory1 0;hold3 2;hold0 3;");
        g.forbid(1, 2);
        due("23: what the factory holds", g.smallestRepair(), 0b1);
        g.forbid(0, 1);
        due("23: the factory", g.smallestRepair(), 0b10);
        // An answering agent.
        ConfinementAnalyzer h = system("agent2 0;agent8 0;key0 0;hold0 1;hold1 2;");
        h.forbid(0, 2);
        due("23: the agent that answers", h.smallestRepair(), 0b1);
        // All ten references must go: each of them alone makes agent 0 hold itself or is forbidden.
        ConfinementAnalyzer e = system("agent5 0;agent1 0;agent1 0;agent1 0;agent1 0;agent1 0;agent1 0;agent1 0;"
                + "agent1 0;agent1 0;");
        for (int i = 0; i < 10; i++) {
            due("23: addReference", e.addReference(i, 0), i + 1);
        }
        e.forbid(0, 0);
        due("23: all ten", e.smallestRepair(), 1023);
    }

    private static void giving() {
        ConfinementAnalyzer c = system("agent1 0;agent4 0;key0 0;agent14 0;agent5 0;hold0 1;hold0 3;hold0 2;hold4 4;");
        due("24: x does not give", c.give(1, 1, 0), INVALID);
        due("24: y does not keep", c.give(0, 0, 0), INVALID);
        due("24: y is a key", c.give(0, 2, 0), INVALID);
        due("24: no z", c.give(0, 1, 5), INVALID);
        due("24: negative x", c.give(-1, 1, 0), INVALID);
        due("24: negative y", c.give(0, -1, 0), INVALID);
        due("24: negative z", c.give(0, 1, -1), INVALID);
        due("24: x does not hold y", c.give(0, 4, 2), ILLEGAL);
        due("24: x does not hold z", c.give(0, 1, 4), ILLEGAL);
        due("24: wrong before illegal", c.give(0, 4, 5), INVALID);
        due("24: errors save nothing", c.undoDepth(), 1);
        due("24: a held object", c.give(0, 1, 2), 1);
        due("24: again", c.give(0, 1, 2), 0);
        due("24: itself", c.give(0, 1, 0), 1);
        due("24: the receiver", c.give(0, 3, 3), 1);
        due("24: to itself", c.give(4, 4, 4), 0);
        due("24: saved, the zeros too", c.undoDepth(), 5);
        due("24: held", c.holdsInRun(1, 2), 1);
        due("24: the list is as it was", c.referenceCount(), 4);
        due("24: undo of a zero", c.undo(), 4);
        due("24: undo of a gift", c.undo(), 3);
        due("24: not held", c.holdsInRun(3, 3), 0);
        due("24: still held", c.holdsInRun(1, 0), 1);
    }

    private static void taking() {
        ConfinementAnalyzer c = system("agent2 0;agent8 0;key0 0;agent7 0;agent10 0;hold0 1;hold1 2;hold0 3;hold4 4;");
        due("25: x does not take", c.take(1, 1, 2), INVALID);
        due("25: y does not answer", c.take(0, 3, 2), INVALID);
        due("25: y is a key", c.take(0, 2, 2), INVALID);
        due("25: no z", c.take(0, 1, 5), INVALID);
        due("25: negative x", c.take(-1, 1, 2), INVALID);
        due("25: negative y", c.take(0, -1, 2), INVALID);
        due("25: negative z", c.take(0, 1, -1), INVALID);
        due("25: x does not hold y", c.take(0, 4, 4), ILLEGAL);
        due("25: y does not hold z", c.take(0, 1, 3), ILLEGAL);
        due("25: y does not hold itself", c.take(0, 1, 1), ILLEGAL);
        due("25: wrong before illegal", c.take(0, 4, 5), INVALID);
        due("25: errors save nothing", c.undoDepth(), 1);
        due("25: take", c.take(0, 1, 2), 1);
        due("25: take again", c.take(0, 1, 2), 0);
        due("25: from itself", c.take(4, 4, 4), 0);
        due("25: held", c.holdsInRun(0, 2), 1);
        due("25: saved, the zeros too", c.undoDepth(), 4);
    }

    private static void opening() {
        ConfinementAnalyzer c = system("agent2 0;agent13 0;box1 1 0;key1 0;key2 0;key1 0;box1 1 0;"
                + "hold0 2;hold0 3;hold0 4;hold1 2;hold1 3;");
        due("26: x does not take", c.open(1, 2, 3), INVALID);
        due("26: another brand", c.open(0, 2, 4), INVALID);
        due("26: no box", c.open(0, 3, 3), INVALID);
        due("26: no key", c.open(0, 2, 2), INVALID);
        due("26: turned about", c.open(0, 3, 2), INVALID);
        due("26: not there", c.open(0, 2, 7), INVALID);
        due("26: negative", c.open(0, -1, 3), INVALID);
        due("26: negative key", c.open(0, 2, -1), INVALID);
        due("26: negative x", c.open(-1, 2, 3), INVALID);
        due("26: key not held", c.open(0, 2, 5), ILLEGAL);
        due("26: box not held", c.open(0, 6, 3), ILLEGAL);
        due("26: errors save nothing", c.undoDepth(), 1);
        due("26: open", c.open(0, 2, 3), 1);
        due("26: held", c.holdsInRun(0, 1), 1);
        due("26: open again", c.open(0, 2, 3), 0);
        due("26: saved, the zero too", c.undoDepth(), 3);
    }

    private static void creating() {
        ConfinementAnalyzer c = system("agent2 0;agent0 0;factory1 0;key0 0;key1 0;agent13 0;factory0 0;"
                + "hold0 2;hold2 3;hold2 4;hold2 2;hold1 3;hold5 2;hold0 6;hold6 6;hold6 3;");
        due("27: x does not take", c.create(5, 2), INVALID);
        due("27: no factory", c.create(0, 1), INVALID);
        due("27: not there", c.create(0, 7), INVALID);
        due("27: negative", c.create(0, -1), INVALID);
        due("27: negative x", c.create(-1, 2), INVALID);
        due("27: three are new, one was there", c.create(0, 2), 3);
        due("27: product", c.holdsInRun(0, 1), 1);
        due("27: endowment", c.holdsInRun(1, 4), 1);
        due("27: the factory itself", c.holdsInRun(1, 2), 1);
        due("27: create again", c.create(0, 2), 0);
        due("27: itself", c.create(0, 6), 2);
        due("27: saved, the zero too", c.undoDepth(), 4);
        ConfinementAnalyzer d = system("agent2 0;factory0 0;agent8 0;hold2 1;hold0 2;");
        due("27: factory not held", d.create(0, 1), ILLEGAL);
        due("27: error saves nothing", d.undoDepth(), 1);
        due("27: take it", d.take(0, 2, 1), 1);
        due("27: factory held in the run", d.create(0, 1), 1);
    }

    private static void restarting() {
        ConfinementAnalyzer c = system("agent1 0;agent4 0;hold0 1;hold0 0;");
        due("28: restartRun at the start", c.restartRun(), 2);
        due("28: give", c.give(0, 1, 0), 1);
        due("28: give", c.give(0, 1, 1), 1);
        due("28: restartRun", c.restartRun(), 4);
        due("28: the initial ones are left", c.restartRun(), 2);
        due("29: initial", c.holdsInRun(0, 1), 1);
        due("29: not held any more", c.holdsInRun(1, 0), 0);
        due("29: never held", c.holdsInRun(1, 1), 0);
        due("28: undo", c.undo(), 4);
        due("28: undo", c.undo(), 3);
        due("29: held again", c.holdsInRun(1, 0), 1);
    }

    private static void undoing() {
        ConfinementAnalyzer c = system("agent1 1;agent4 2;hold0 1;");
        due("31: undoDepth", c.undoDepth(), 1);
        due("30: forbid", c.forbid(1, 0), 1);
        due("30: setBehaviour", c.setBehaviour(0, 0), 1);
        due("30: violationCount", c.violationCount(), 0);
        due("30: setGroup", c.setGroup(1, 3), 2);
        due("30: addReference", c.addReference(1, 1), 2);
        due("31: undoDepth", c.undoDepth(), 5);
        due("30: removeReference", c.removeReference(0), 1);
        due("31: no sixth", c.undoDepth(), 5);
        type(c, "x");
        due("30: undo removeReference", c.undo(), 4);
        due("30: there again", c.round(0, 1), 0);
        due("30: undo addReference", c.undo(), 3);
        due("30: gone again", c.mayHold(1, 1), 0);
        due("30: undo setGroup", c.undo(), 2);
        due("30: group 2 again", c.setGroup(1, 2), ILLEGAL);
        due("30: undo setBehaviour", c.undo(), 1);
        due("30: behaviour 1 again", c.behaviour(0), 1);
        due("30: violated again", c.violationCount(), 1);
        due("30: undo forbid", c.undo(), 0);
        due("30: no requirement", c.violationCount(), 0);
        due("30: the load is not undone", c.undo(), ILLEGAL);
        due("30: the objects stay", c.objectCount(), 2);
        due("31: undoDepth", c.undoDepth(), 0);
        due("30: the text is no part of it", c.clearText(), 1);
    }

    private static void undoingLoads() {
        ConfinementAnalyzer c = system("agent1 1;agent4 2;hold0 1;");
        due("30: give", c.give(0, 1, 0), 1);
        due("30: forbid", c.forbid(1, 0), 1);
        due("30: load of nothing", c.load(), 0);
        due("30: no objects", c.objectCount(), 0);
        due("31: undoDepth", c.undoDepth(), 4);
        due("30: undo load", c.undo(), 3);
        due("30: objects", c.objectCount(), 2);
        due("30: references", c.referenceCount(), 1);
        due("30: requirements", c.violationCount(), 1);
        due("30: the run", c.holdsInRun(1, 0), 1);
        due("30: permit", c.permit(1, 0), 0);
        due("30: undo permit", c.undo(), 3);
        due("30: forbidden again", c.forbid(1, 0), ILLEGAL);
        due("30: restartRun", c.restartRun(), 2);
        due("30: undo restartRun", c.undo(), 3);
        due("30: the run again", c.holdsInRun(1, 0), 1);
        due("30: undo forbid", c.undo(), 2);
        due("30: undo give", c.undo(), 1);
        due("30: not held", c.holdsInRun(1, 0), 0);
        due("30: undo the first load", c.undo(), 0);
        due("30: no objects at the start", c.objectCount(), 0);
        due("30: undo", c.undo(), ILLEGAL);
    }

    public static void main(String[] args) {
        newObject();
        appending();
        clearing();
        loading();
        loadErrors();
        objects();
        settingBehaviour();
        settingGroup();
        addingReferences();
        removingReferences();
        eachRule();
        orderOfCauses();
        derivations();
        askingForNoObject();
        coarse();
        requirements();
        repairs();
        giving();
        taking();
        opening();
        creating();
        restarting();
        undoing();
        undoingLoads();
        end("the promises hold");
    }
}
