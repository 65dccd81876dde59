import java.util.ArrayDeque;
import java.util.ArrayList;
import java.util.Collections;
import java.util.Deque;
import java.util.HashMap;
import java.util.HashSet;
import java.util.List;
import java.util.Map;
import java.util.Random;
import java.util.Set;

/**
 * Compares the class with a slow model that follows the document's words, over
 * runs of calls drawn from a fixed seed.
 */
public final class OracleTest {
    private static final int RUNS = 1500;
    private static final int CALLS = 512;
    private static int wrong = 0;

    private record Thing(int kind, int trait, int target, int group) {
    }

    private record Ref(int holder, int object) {
    }

    private record Cause(int round, int rule, int partner, List<Ref> premises) {
    }

    /** A state never changes: every change makes a new one. */
    private record World(List<Thing> things, List<Ref> list, List<Ref> requirements, Set<Ref> run) {
        boolean has(int o) {
            return o >= 0 && o < things.size();
        }

        boolean is(int o, int kind) {
            return has(o) && things.get(o).kind == kind;
        }

        boolean agent(int o, int flag) {
            return is(o, 0) && (things.get(o).trait & flag) != 0;
        }

        boolean canHold(int o) {
            return is(o, 0) || is(o, 3);
        }

        World restarted() {
            return new World(things, list, requirements, new HashSet<>(list));
        }

        World with(int o, Thing thing) {
            List<Thing> changed = new ArrayList<>(things);
            changed.set(o, thing);
            return new World(changed, list, requirements, run).restarted();
        }
    }

    /** The document, told again without any care for speed. */
    private static final class Model {
        private StringBuilder text = new StringBuilder();
        private World w = new World(List.of(), List.of(), List.of(), Set.of());
        private final Deque<World> saved = new ArrayDeque<>();
        private Map<Ref, Cause> known = null;

        private int move(World next, int answer) {
            saved.addLast(w);
            if (saved.size() > 5) {
                saved.removeFirst();
            }
            w = next;
            known = null;
            return answer;
        }

        private Cause causeFor(Map<Ref, Cause> found, int a, int b, int round) {
            int n = w.things.size();
            for (int x = 0; x < n; x++) {
                if (w.agent(x, 1) && found.containsKey(new Ref(x, a)) && w.agent(a, 4)
                        && (b == x || found.containsKey(new Ref(x, b)))) {
                    return new Cause(round, 1, x,
                            b == x ? List.of(new Ref(x, a)) : List.of(new Ref(x, a), new Ref(x, b)));
                }
            }
            for (int y = 0; y < n; y++) {
                if (w.agent(a, 2) && found.containsKey(new Ref(a, y)) && w.agent(y, 8)
                        && found.containsKey(new Ref(y, b))) {
                    return new Cause(round, 2, y, List.of(new Ref(a, y), new Ref(y, b)));
                }
            }
            for (int box = 0; box < n; box++) {
                for (int key = 0; key < n; key++) {
                    if (w.agent(a, 2) && w.is(box, 1) && w.is(key, 2) && w.things.get(box).target == b
                            && w.things.get(box).trait == w.things.get(key).trait
                            && found.containsKey(new Ref(a, box)) && found.containsKey(new Ref(a, key))) {
                        return new Cause(round, 3, box, List.of(new Ref(a, box), new Ref(a, key)));
                    }
                }
            }
            for (int f = 0; f < n; f++) {
                if (w.agent(a, 2) && w.is(f, 3) && w.things.get(f).target == b && found.containsKey(new Ref(a, f))) {
                    return new Cause(round, 4, f, List.of(new Ref(a, f)));
                }
            }
            for (int f = 0; f < n; f++) {
                for (int x = 0; x < n; x++) {
                    if (w.is(f, 3) && w.things.get(f).target == a && found.containsKey(new Ref(f, b))
                            && w.agent(x, 2) && found.containsKey(new Ref(x, f))) {
                        return new Cause(round, 5, f, List.of(new Ref(f, b), new Ref(x, f)));
                    }
                }
            }
            return null;
        }

        private Map<Ref, Cause> analyse(List<Ref> initial) {
            Map<Ref, Cause> found = new HashMap<>();
            for (Ref r : initial) {
                found.put(r, new Cause(0, 0, -9, List.of()));
            }
            for (int round = 1;; round++) {
                Map<Ref, Cause> fresh = new HashMap<>();
                for (int a = 0; a < w.things.size(); a++) {
                    for (int b = 0; b < w.things.size(); b++) {
                        Ref r = new Ref(a, b);
                        Cause cause = found.containsKey(r) ? null : causeFor(found, a, b, round);
                        if (cause != null) {
                            fresh.put(r, cause);
                        }
                    }
                }
                if (fresh.isEmpty()) {
                    return found;
                }
                found.putAll(fresh);
            }
        }

        private Map<Ref, Cause> analysis() {
            if (known == null) {
                known = analyse(w.list);
            }
            return known;
        }

        private Set<Ref> coarse() {
            Set<Ref> held = new HashSet<>(w.list);
            int before;
            do {
                before = held.size();
                held.addAll(analyse(new ArrayList<>(held)).keySet());
                for (Ref r : new ArrayList<>(held)) {
                    for (int a = 0; a < w.things.size(); a++) {
                        for (int b = 0; b < w.things.size(); b++) {
                            if (w.canHold(a) && w.things.get(a).group == w.things.get(r.holder).group
                                    && w.things.get(b).group == w.things.get(r.object).group) {
                                held.add(new Ref(a, b));
                            }
                        }
                    }
                }
            } while (held.size() != before);
            return held;
        }

        private void derive(Ref r, Set<Ref> into) {
            into.add(r);
            for (Ref premise : analysis().get(r).premises) {
                derive(premise, into);
            }
        }

        int append(int c) {
            if (c < 0 || c > 255) {
                return -1;
            }
            if (text.length() == 160) {
                return -3;
            }
            text.append((char) c);
            return text.length();
        }

        int clearText() {
            int n = text.length();
            text = new StringBuilder();
            return n;
        }

        private int position;
        private String token;

        /** Makes the token empty at the end of the text. */
        private void step() {
            position += token == null ? 0 : token.length();
            while (position < text.length() && text.charAt(position) == ' ') {
                position++;
            }
            String rest = text.substring(position);
            String word = rest.replaceFirst("(?s)[^a-z].*", "");
            String number = rest.replaceFirst("(?s)[^0-9].*", "");
            token = !word.isEmpty() ? word : !number.isEmpty() ? number : rest.isEmpty() ? "" : rest.substring(0, 1);
        }

        private int number() {
            return token.matches("0|[1-9][0-9]?") ? Integer.parseInt(token) : -1;
        }

        private boolean numberBelow(int limit) {
            return number() >= 0 && number() < limit;
        }

        int load() {
            List<Thing> things = new ArrayList<>();
            List<Ref> list = new ArrayList<>();
            World draft = new World(things, list, List.of(), Set.of());
            position = 0;
            token = null;
            for (step(); !token.isEmpty(); step()) {
                String word = token;
                List<Integer> n = new ArrayList<>();
                String shape = switch (word) {
                    case "agent" -> "fg";
                    case "box" -> "bog";
                    case "key" -> "bg";
                    case "factory" -> "ag";
                    case "hold" -> "hr";
                    default -> "";
                };
                if (shape.isEmpty() || (word.equals("hold") ? list.size() : things.size()) == 10) {
                    return -10 - position;
                }
                for (char slot : shape.toCharArray()) {
                    step();
                    boolean good = switch (slot) {
                        case 'f' -> numberBelow(16);
                        case 'g' -> numberBelow(6);
                        case 'b' -> numberBelow(4);
                        case 'o' -> numberBelow(things.size());
                        case 'a' -> draft.is(number(), 0);
                        case 'h' -> draft.canHold(number());
                        default -> draft.has(number()) && !list.contains(new Ref(n.get(0), number()));
                    };
                    if (!good) {
                        return -10 - position;
                    }
                    n.add(number());
                }
                step();
                if (!token.equals(";")) {
                    return -10 - position;
                }
                switch (word) {
                    case "agent" -> things.add(new Thing(0, n.get(0), -1, n.get(1)));
                    case "box" -> things.add(new Thing(1, n.get(0), n.get(1), n.get(2)));
                    case "key" -> things.add(new Thing(2, n.get(0), -1, n.get(1)));
                    case "factory" -> things.add(new Thing(3, -1, n.get(0), n.get(1)));
                    default -> list.add(new Ref(n.get(0), n.get(1)));
                }
            }
            text = new StringBuilder();
            return move(draft.restarted(), things.size());
        }

        int kind(int o) {
            return w.has(o) ? w.things.get(o).kind : -1;
        }

        int behaviour(int o) {
            return w.is(o, 0) ? w.things.get(o).trait : -1;
        }

        int setBehaviour(int o, int b) {
            if (!w.is(o, 0) || b < 0 || b > 15) {
                return -1;
            }
            Thing t = w.things.get(o);
            return t.trait == b ? -2 : move(w.with(o, new Thing(0, b, t.target, t.group)), t.trait);
        }

        int setGroup(int o, int g) {
            if (!w.has(o) || g < 0 || g > 5) {
                return -1;
            }
            Thing t = w.things.get(o);
            return t.group == g ? -2 : move(w.with(o, new Thing(t.kind, t.trait, t.target, g)), t.group);
        }

        int addReference(int a, int b) {
            if (!w.canHold(a) || !w.has(b)) {
                return -1;
            }
            if (w.list.contains(new Ref(a, b))) {
                return -2;
            }
            if (w.list.size() == 10) {
                return -3;
            }
            List<Ref> list = new ArrayList<>(w.list);
            list.add(new Ref(a, b));
            return move(new World(w.things, list, w.requirements, w.run).restarted(), list.size());
        }

        int removeReference(int i) {
            if (i < 0 || i >= w.list.size()) {
                return -1;
            }
            List<Ref> list = new ArrayList<>(w.list);
            list.remove(i);
            return move(new World(w.things, list, w.requirements, w.run).restarted(), list.size());
        }

        private boolean both(int a, int b) {
            return w.has(a) && w.has(b);
        }

        int ask(int what, int a, int b) {
            if (!both(a, b)) {
                return -1;
            }
            Ref r = new Ref(a, b);
            Cause cause = analysis().get(r);
            if (what == 0) {
                return cause == null ? 0 : 1;
            }
            if (what == 5) {
                return coarse().contains(r) ? 1 : 0;
            }
            if (what == 6) {
                return w.run.contains(r) ? 1 : 0;
            }
            if (cause == null) {
                return -9;
            }
            if (what == 1) {
                return cause.round;
            }
            if (what == 2) {
                return cause.rule;
            }
            if (what == 3) {
                return cause.partner;
            }
            Set<Ref> derivation = new HashSet<>();
            derive(r, derivation);
            derivation.removeAll(w.list);
            return derivation.size();
        }

        int lastRound() {
            int last = 0;
            for (Cause cause : analysis().values()) {
                last = Math.max(last, cause.round);
            }
            return last;
        }

        int forbid(int a, int b) {
            if (!both(a, b)) {
                return -1;
            }
            if (w.requirements.contains(new Ref(a, b))) {
                return -2;
            }
            if (w.requirements.size() == 4) {
                return -3;
            }
            List<Ref> requirements = new ArrayList<>(w.requirements);
            requirements.add(new Ref(a, b));
            return move(new World(w.things, w.list, requirements, w.run), requirements.size());
        }

        int permit(int a, int b) {
            if (!both(a, b)) {
                return -1;
            }
            List<Ref> requirements = new ArrayList<>(w.requirements);
            if (!requirements.remove(new Ref(a, b))) {
                return -2;
            }
            return move(new World(w.things, w.list, requirements, w.run), requirements.size());
        }

        int violationCount() {
            int n = 0;
            for (Ref r : w.requirements) {
                n += analysis().containsKey(r) ? 1 : 0;
            }
            return n;
        }

        int smallestRepair() {
            int best = -1;
            for (int mask = 0; mask < 1 << w.list.size(); mask++) {
                if (best >= 0 && Integer.bitCount(mask) >= Integer.bitCount(best)) {
                    continue;
                }
                List<Ref> left = new ArrayList<>();
                for (int i = 0; i < w.list.size(); i++) {
                    if ((mask & 1 << i) == 0) {
                        left.add(w.list.get(i));
                    }
                }
                if (Collections.disjoint(analyse(left).keySet(), w.requirements)) {
                    best = mask;
                }
            }
            return best;
        }

        private int grow(List<Ref> more) {
            Set<Ref> run = new HashSet<>(w.run);
            run.addAll(more);
            return move(new World(w.things, w.list, w.requirements, run), run.size() - w.run.size());
        }

        private boolean holds(int a, int b) {
            return w.run.contains(new Ref(a, b));
        }

        int give(int x, int y, int z) {
            if (!w.agent(x, 1) || !w.agent(y, 4) || !w.has(z)) {
                return -1;
            }
            return holds(x, y) && (z == x || holds(x, z)) ? grow(List.of(new Ref(y, z))) : -2;
        }

        int take(int x, int y, int z) {
            if (!w.agent(x, 2) || !w.agent(y, 8) || !w.has(z)) {
                return -1;
            }
            return holds(x, y) && holds(y, z) ? grow(List.of(new Ref(x, z))) : -2;
        }

        int open(int x, int box, int key) {
            if (!w.agent(x, 2) || !w.is(box, 1) || !w.is(key, 2)
                    || w.things.get(box).trait != w.things.get(key).trait) {
                return -1;
            }
            return holds(x, box) && holds(x, key) ? grow(List.of(new Ref(x, w.things.get(box).target))) : -2;
        }

        int create(int x, int f) {
            if (!w.agent(x, 2) || !w.is(f, 3)) {
                return -1;
            }
            if (!holds(x, f)) {
                return -2;
            }
            int product = w.things.get(f).target;
            List<Ref> more = new ArrayList<>();
            more.add(new Ref(x, product));
            for (Ref r : w.run) {
                if (r.holder == f) {
                    more.add(new Ref(product, r.object));
                }
            }
            return grow(more);
        }

        int restartRun() {
            return move(w.restarted(), w.run.size());
        }

        int undo() {
            if (saved.isEmpty()) {
                return -2;
            }
            w = saved.removeLast();
            known = null;
            return saved.size();
        }
    }

    /** One analyzer and one model that get the same calls. */
    private static final class Pair {
        private final int number;
        private final Random dice;
        private final ConfinementAnalyzer c = new ConfinementAnalyzer();
        private final Model m = new Model();
        private int calls = 0;

        Pair(int number) {
            this.number = number;
            dice = new Random(number);
        }

        private void due(String call, int got, int want) {
            calls++;
            if (got != want && wrong++ < 20) {
                System.out.println("run " + number + ", call " + calls + ": " + call
                        + " answered " + got + ", due is " + want);
            }
        }

        private String randomSystem() {
            StringBuilder text = new StringBuilder();
            List<Integer> agents = new ArrayList<>();
            List<Integer> holders = new ArrayList<>();
            int objects = 2 + dice.nextInt(9);
            int groups = 1 + dice.nextInt(6);
            int brands = 1 + dice.nextInt(4);
            for (int o = 0; o < objects; o++) {
                int kind = agents.isEmpty() ? dice.nextInt(4) * dice.nextInt(2) : dice.nextInt(6);
                if (kind == 3 && o == 0) {
                    kind = 4;
                }
                int group = dice.nextInt(groups);
                int brand = dice.nextInt(brands);
                if (kind == 3) {
                    text.append("box").append(brand).append(" ").append(dice.nextInt(o));
                } else if (kind == 4) {
                    text.append("key").append(brand);
                } else if (kind == 5) {
                    text.append("factory").append(agents.get(dice.nextInt(agents.size())));
                    holders.add(o);
                } else {
                    text.append("agent").append(dice.nextInt(3) == 0 ? 15 : dice.nextInt(16));
                    agents.add(o);
                    holders.add(o);
                }
                text.append(dice.nextInt(8) == 0 ? "  " : " ").append(group).append(";");
            }
            Set<Ref> seen = new HashSet<>();
            for (int i = dice.nextInt(11); i > 0 && !holders.isEmpty(); i--) {
                Ref r = new Ref(holders.get(dice.nextInt(holders.size())), dice.nextInt(objects));
                if (seen.add(r) || dice.nextInt(30) == 0) {
                    text.append("hold").append(r.holder).append(" ").append(r.object).append(";");
                }
            }
            return text.toString();
        }

        /** Spoils a text in one place, so that the error position is asked. */
        private String spoil(String text) {
            String signs = "agentboxkeyfactoryhold0123456789 ;;  \t-Az`{/:";
            StringBuilder spoilt = new StringBuilder(text);
            int at = dice.nextInt(text.length());
            String sign = signs.substring(dice.nextInt(signs.length())).substring(0, 1);
            switch (dice.nextInt(4)) {
                case 0 -> spoilt.deleteCharAt(at);
                case 1 -> spoilt.insert(at, sign);
                case 2 -> spoilt.setLength(at);
                default -> spoilt.setCharAt(at, sign.charAt(0));
            }
            return spoilt.toString();
        }

        private void loadSomething() {
            String text = randomSystem();
            for (int spoils = dice.nextInt(4) == 0 ? 1 + dice.nextInt(2) : 0; spoils > 0 && !text.isEmpty(); spoils--) {
                text = spoil(text);
            }
            for (int i = 0; i < text.length(); i++) {
                due("append(" + (int) text.charAt(i) + ")", c.append(text.charAt(i)), m.append(text.charAt(i)));
            }
            due("load() of " + m.text, c.load(), m.load());
            if (dice.nextInt(3) > 0) {
                due("clearText()", c.clearText(), m.clearText());
            }
        }

        private int anyObject() {
            int n = m.w.things.size();
            return dice.nextInt(25) == 0 ? dice.nextInt(14) - 2 : n == 0 ? 0 : dice.nextInt(n);
        }

        /** Mostly a target that the holder has in the run, so that the runs get somewhere. */
        private int heldBy(int holder) {
            List<Integer> held = new ArrayList<>();
            for (int o = 0; o < m.w.things.size(); o++) {
                if (m.w.run.contains(new Ref(holder, o))) {
                    held.add(o);
                }
            }
            return held.isEmpty() || dice.nextInt(5) == 0 ? anyObject() : held.get(dice.nextInt(held.size()));
        }

        private void change() {
            int a = anyObject();
            int b = anyObject();
            String two = "(" + a + ", " + b + ")";
            switch (dice.nextInt(9)) {
                case 0 -> {
                    int v = dice.nextInt(18) - 1;
                    due("setBehaviour(" + a + ", " + v + ")", c.setBehaviour(a, v), m.setBehaviour(a, v));
                }
                case 1 -> {
                    int v = dice.nextInt(8) - 1;
                    due("setGroup(" + a + ", " + v + ")", c.setGroup(a, v), m.setGroup(a, v));
                }
                case 2, 3 -> due("addReference" + two, c.addReference(a, b), m.addReference(a, b));
                case 4 -> {
                    int i = dice.nextInt(12) - 1;
                    due("removeReference(" + i + ")", c.removeReference(i), m.removeReference(i));
                }
                case 5, 6 -> due("forbid" + two, c.forbid(a, b), m.forbid(a, b));
                case 7 -> {
                    List<Ref> all = m.w.requirements;
                    Ref r = all.isEmpty() || dice.nextInt(3) == 0 ? new Ref(a, b) : all.get(dice.nextInt(all.size()));
                    due("permit" + r, c.permit(r.holder, r.object), m.permit(r.holder, r.object));
                }
                default -> {
                    due("undo()", c.undo(), m.undo());
                    due("referenceCount()", c.referenceCount(), m.w.list.size());
                }
            }
        }

        private void runStep() {
            int x = anyObject();
            int y = heldBy(x);
            int z = dice.nextBoolean() ? heldBy(x) : heldBy(y);
            String three = "(" + x + ", " + y + ", " + z + ")";
            switch (dice.nextInt(9)) {
                case 0, 1 -> due("give" + three, c.give(x, y, z), m.give(x, y, z));
                case 2, 3 -> due("take" + three, c.take(x, y, z), m.take(x, y, z));
                case 4, 5 -> due("open" + three, c.open(x, y, z), m.open(x, y, z));
                case 6, 7 -> due("create(" + x + ", " + y + ")", c.create(x, y), m.create(x, y));
                default -> {
                    if (dice.nextInt(4) == 0) {
                        due("restartRun()", c.restartRun(), m.restartRun());
                    }
                }
            }
        }

        private void ask() {
            int a = anyObject();
            int b = anyObject();
            String two = "(" + a + ", " + b + ")";
            due("mayHold" + two, c.mayHold(a, b), m.ask(0, a, b));
            due("round" + two, c.round(a, b), m.ask(1, a, b));
            due("rule" + two, c.rule(a, b), m.ask(2, a, b));
            due("partner" + two, c.partner(a, b), m.ask(3, a, b));
            due("derivationSize" + two, c.derivationSize(a, b), m.ask(4, a, b));
            due("coarselyMayHold" + two, c.coarselyMayHold(a, b), m.ask(5, a, b));
            due("holdsInRun" + two, c.holdsInRun(a, b), m.ask(6, a, b));
        }

        private void askOnce() {
            int a = anyObject();
            due("objectCount()", c.objectCount(), m.w.things.size());
            due("referenceCount()", c.referenceCount(), m.w.list.size());
            due("kind(" + a + ")", c.kind(a), m.kind(a));
            due("behaviour(" + a + ")", c.behaviour(a), m.behaviour(a));
            due("lastRound()", c.lastRound(), m.lastRound());
            due("violationCount()", c.violationCount(), m.violationCount());
            due("undoDepth()", c.undoDepth(), m.saved.size());
            if (dice.nextInt(3) == 0) {
                due("smallestRepair()", c.smallestRepair(), m.smallestRepair());
            }
        }

        void play() {
            loadSomething();
            while (calls < CALLS - 180 && wrong < 20) {
                int draw = dice.nextInt(40);
                if (draw == 0) {
                    loadSomething();
                } else if (draw < 12) {
                    change();
                } else if (draw < 25) {
                    runStep();
                } else if (draw < 37) {
                    ask();
                } else {
                    askOnce();
                }
            }
        }
    }

    public static void main(String[] args) {
        int calls = 0;
        for (int run = 1; run <= RUNS && wrong < 20; run++) {
            Pair pair = new Pair(run);
            pair.play();
            calls += pair.calls;
        }
        System.out.println(wrong == 0 ? "the model agrees on " + calls + " calls" : wrong + " answers are not as due");
        if (wrong != 0) {
            System.exit(1);
        }
    }
}
