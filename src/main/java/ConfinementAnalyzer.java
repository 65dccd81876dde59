import java.util.Arrays;

/**
 * Computes which objects of an object-capability system may come to hold a
 * reference to which others, explains and repairs it, and performs runs.
 */
public final class ConfinementAnalyzer {
    public static final int INVALID_ARGUMENT = -1;
    public static final int ILLEGAL_STATE = -2;
    public static final int CAPACITY_EXCEEDED = -3;
    public static final int NONE = -9;
    public static final int GIVES = 1, TAKES = 2, KEEPS = 4, ANSWERS = 8;

    private static final int MAX_OBJECTS = 10;
    private static final int MAX_REFERENCES = 10;
    private static final int MAX_REQUIREMENTS = 4;
    private static final int MAX_SAVED = 5;
    private static final int MAX_TEXT = 160;
    private static final int MAX_CHARACTER = 255;
    private static final int BEHAVIOURS = 16;
    private static final int GROUPS = 6;
    private static final int BRANDS = 4;
    private static final int PAIRS = MAX_OBJECTS * MAX_OBJECTS;
    private static final int LOAD_ERROR_BASE = -10;

    private static final int AGENT = 0;
    private static final int BOX = 1;
    private static final int KEY = 2;
    private static final int FACTORY = 3;

    /** Stands where an index is sought and there is none. */
    private static final int NOWHERE = -1;

    private final Text text = new Text();
    private final State state = new State();
    private final State draft = new State();
    private final History history = new History();
    private final Roles roles = new Roles();
    private final Analysis analysis = new Analysis();
    private final Closure coarse = new Closure();
    private final Closure trial = new Closure();
    private boolean analysed = false;

    public ConfinementAnalyzer() {
    }

    // ---- system

    public int append(int character) {
        if (character < 0 || character > MAX_CHARACTER) {
            return INVALID_ARGUMENT;
        }
        if (text.length >= MAX_TEXT) {
            return CAPACITY_EXCEEDED;
        }
        text.characters[text.length] = character;
        text.length++;
        return text.length;
    }

    public int clearText() {
        int previous = text.length;
        text.length = 0;
        return previous;
    }

    public int load() {
        int error = text.readInto(draft);
        if (error != NOWHERE) {
            return LOAD_ERROR_BASE - error;
        }
        saveState();
        state.copyFrom(draft);
        state.startRun();
        text.length = 0;
        return state.objectCount;
    }

    public int objectCount() {
        return state.objectCount;
    }

    public int kind(int object) {
        return state.has(object) ? state.kinds[object] : INVALID_ARGUMENT;
    }

    public int behaviour(int agent) {
        return state.isAgent(agent) ? state.traits[agent] : INVALID_ARGUMENT;
    }

    public int setBehaviour(int agent, int behaviour) {
        if (!state.isAgent(agent) || behaviour < 0 || behaviour >= BEHAVIOURS) {
            return INVALID_ARGUMENT;
        }
        int previous = state.traits[agent];
        if (previous == behaviour) {
            return ILLEGAL_STATE;
        }
        saveState();
        state.traits[agent] = behaviour;
        state.startRun();
        return previous;
    }

    public int setGroup(int object, int group) {
        if (!state.has(object) || group < 0 || group >= GROUPS) {
            return INVALID_ARGUMENT;
        }
        int previous = state.groups[object];
        if (previous == group) {
            return ILLEGAL_STATE;
        }
        saveState();
        state.groups[object] = group;
        state.startRun();
        return previous;
    }

    public int addReference(int holder, int object) {
        if (!state.canHold(holder) || !state.has(object)) {
            return INVALID_ARGUMENT;
        }
        if (state.listsReference(holder, object)) {
            return ILLEGAL_STATE;
        }
        if (state.referenceCount >= MAX_REFERENCES) {
            return CAPACITY_EXCEEDED;
        }
        saveState();
        state.listReference(holder, object);
        state.startRun();
        return state.referenceCount;
    }

    public int removeReference(int index) {
        if (index < 0 || index >= state.referenceCount) {
            return INVALID_ARGUMENT;
        }
        saveState();
        state.unlistReference(index);
        state.startRun();
        return state.referenceCount;
    }

    public int referenceCount() {
        return state.referenceCount;
    }

    // ---- analysis

    public int mayHold(int holder, int object) {
        if (!state.hasBoth(holder, object)) {
            return INVALID_ARGUMENT;
        }
        refreshAnalysis();
        return contains(analysis.rows[holder], object) ? 1 : 0;
    }

    public int round(int holder, int object) {
        if (!state.hasBoth(holder, object)) {
            return INVALID_ARGUMENT;
        }
        refreshAnalysis();
        return analysis.rounds[pair(holder, object)];
    }

    public int rule(int holder, int object) {
        if (!state.hasBoth(holder, object)) {
            return INVALID_ARGUMENT;
        }
        refreshAnalysis();
        return analysis.rules[pair(holder, object)];
    }

    public int partner(int holder, int object) {
        if (!state.hasBoth(holder, object)) {
            return INVALID_ARGUMENT;
        }
        refreshAnalysis();
        return analysis.partners[pair(holder, object)];
    }

    public int derivationSize(int holder, int object) {
        if (!state.hasBoth(holder, object)) {
            return INVALID_ARGUMENT;
        }
        refreshAnalysis();
        if (!contains(analysis.rows[holder], object)) {
            return NONE;
        }
        return analysis.countDerived(pair(holder, object));
    }

    public int lastRound() {
        refreshAnalysis();
        return analysis.lastRound;
    }

    public int coarselyMayHold(int holder, int object) {
        if (!state.hasBoth(holder, object)) {
            return INVALID_ARGUMENT;
        }
        refreshAnalysis();
        return contains(coarse.rows[holder], object) ? 1 : 0;
    }

    // ---- requirements

    public int forbid(int holder, int object) {
        if (!state.hasBoth(holder, object)) {
            return INVALID_ARGUMENT;
        }
        if (state.findRequirement(holder, object) != NOWHERE) {
            return ILLEGAL_STATE;
        }
        if (state.requirementCount >= MAX_REQUIREMENTS) {
            return CAPACITY_EXCEEDED;
        }
        saveState();
        state.addRequirement(holder, object);
        return state.requirementCount;
    }

    public int permit(int holder, int object) {
        if (!state.hasBoth(holder, object)) {
            return INVALID_ARGUMENT;
        }
        int index = state.findRequirement(holder, object);
        if (index == NOWHERE) {
            return ILLEGAL_STATE;
        }
        saveState();
        state.dropRequirement(index);
        return state.requirementCount;
    }

    public int violationCount() {
        refreshAnalysis();
        return state.countViolations(analysis.rows);
    }

    public int smallestRepair() {
        refreshAnalysis();
        int all = (1 << state.referenceCount) - 1;
        int needed = findNeeded(all);
        for (int size = 0; size < state.referenceCount; size++) {
            for (int removed = 0; removed < all; removed++) {
                boolean fits = Integer.bitCount(removed) == size && (removed & needed) == needed;
                if (fits && isRepair(removed)) {
                    return removed;
                }
            }
        }
        // Without initial references nothing is held, so that all of them are a repair.
        return all;
    }

    // ---- runs

    public int give(int x, int y, int z) {
        if (!state.isAgentWith(x, GIVES) || !state.isAgentWith(y, KEEPS) || !state.has(z)) {
            return INVALID_ARGUMENT;
        }
        if (!state.runHolds(x, y) || (z != x && !state.runHolds(x, z))) {
            return ILLEGAL_STATE;
        }
        saveState();
        return state.addToRun(y, bit(z));
    }

    public int take(int x, int y, int z) {
        if (!state.isAgentWith(x, TAKES) || !state.isAgentWith(y, ANSWERS) || !state.has(z)) {
            return INVALID_ARGUMENT;
        }
        if (!state.runHolds(x, y) || !state.runHolds(y, z)) {
            return ILLEGAL_STATE;
        }
        saveState();
        return state.addToRun(x, bit(z));
    }

    public int open(int x, int box, int key) {
        if (!state.isAgentWith(x, TAKES) || !state.fits(key, box)) {
            return INVALID_ARGUMENT;
        }
        if (!state.runHolds(x, box) || !state.runHolds(x, key)) {
            return ILLEGAL_STATE;
        }
        saveState();
        return state.addToRun(x, bit(state.targets[box]));
    }

    public int create(int x, int factory) {
        if (!state.isAgentWith(x, TAKES) || !state.isOfKind(factory, FACTORY)) {
            return INVALID_ARGUMENT;
        }
        if (!state.runHolds(x, factory)) {
            return ILLEGAL_STATE;
        }
        saveState();
        int product = state.targets[factory];
        int created = state.addToRun(x, bit(product));
        int endowed = state.addToRun(product, state.runRows[factory]);
        return created + endowed;
    }

    public int restartRun() {
        int previous = state.countRun();
        saveState();
        state.startRun();
        return previous;
    }

    public int holdsInRun(int holder, int object) {
        if (!state.hasBoth(holder, object)) {
            return INVALID_ARGUMENT;
        }
        return state.runHolds(holder, object) ? 1 : 0;
    }

    // ---- undo

    public int undo() {
        if (history.size <= 0) {
            return ILLEGAL_STATE;
        }
        history.restoreInto(state);
        analysed = false;
        return history.size;
    }

    public int undoDepth() {
        return history.size;
    }

    // ---- helpers

    /** Every change of the state begins here, so the analysis is out of date from here on. */
    private void saveState() {
        history.save(state);
        analysed = false;
    }

    private void refreshAnalysis() {
        if (analysed) {
            return;
        }
        roles.readFrom(state);
        analysis.findAll(roles, state);
        coarse.start(state, 0);
        coarse.close(roles, true);
        analysed = true;
    }

    /**
     * The references that violate a requirement even alone: more references never yield less, so
     * that every repair has them, and smallestRepair() need not try the many sets that lack one.
     */
    private int findNeeded(int all) {
        int needed = 0;
        for (int i = 0; i < state.referenceCount; i++) {
            if (!isRepair(all & ~bit(i))) {
                needed |= bit(i);
            }
        }
        return needed;
    }

    private boolean isRepair(int removed) {
        trial.start(state, removed);
        trial.close(roles, false);
        return state.countViolations(trial.rows) == 0;
    }

    private static int bit(int object) {
        return 1 << object;
    }

    private static boolean contains(int row, int object) {
        return (row >> object & 1) != 0;
    }

    private static int pair(int holder, int object) {
        return holder * MAX_OBJECTS + object;
    }

    private static int lowest(int row) {
        for (int object = 0; object < MAX_OBJECTS; object++) {
            if (contains(row, object)) {
                return object;
            }
        }
        return NOWHERE;
    }

    /** The objects, the initial references, the requirements and the references of the run. */
    private static final class State {
        int objectCount = 0;
        final int[] kinds = new int[MAX_OBJECTS];
        /** The behaviour of an agent, the brand of a box or a key. */
        final int[] traits = new int[MAX_OBJECTS];
        /** The content of a box, the product of a factory. */
        final int[] targets = new int[MAX_OBJECTS];
        final int[] groups = new int[MAX_OBJECTS];
        int referenceCount = 0;
        final int[] referenceHolders = new int[MAX_REFERENCES];
        final int[] referenceObjects = new int[MAX_REFERENCES];
        int requirementCount = 0;
        final int[] requirementHolders = new int[MAX_REQUIREMENTS];
        final int[] requirementObjects = new int[MAX_REQUIREMENTS];
        /** For each holder, the set of objects that it holds in the run, a bit for each. */
        final int[] runRows = new int[MAX_OBJECTS];

        void reset() {
            objectCount = 0;
            referenceCount = 0;
            requirementCount = 0;
            Arrays.fill(runRows, 0);
        }

        void copyFrom(State other) {
            objectCount = other.objectCount;
            System.arraycopy(other.kinds, 0, kinds, 0, MAX_OBJECTS);
            System.arraycopy(other.traits, 0, traits, 0, MAX_OBJECTS);
            System.arraycopy(other.targets, 0, targets, 0, MAX_OBJECTS);
            System.arraycopy(other.groups, 0, groups, 0, MAX_OBJECTS);
            referenceCount = other.referenceCount;
            System.arraycopy(other.referenceHolders, 0, referenceHolders, 0, MAX_REFERENCES);
            System.arraycopy(other.referenceObjects, 0, referenceObjects, 0, MAX_REFERENCES);
            requirementCount = other.requirementCount;
            System.arraycopy(other.requirementHolders, 0, requirementHolders, 0, MAX_REQUIREMENTS);
            System.arraycopy(other.requirementObjects, 0, requirementObjects, 0, MAX_REQUIREMENTS);
            System.arraycopy(other.runRows, 0, runRows, 0, MAX_OBJECTS);
        }

        boolean has(int object) {
            return object >= 0 && object < objectCount;
        }

        boolean hasBoth(int holder, int object) {
            return has(holder) && has(object);
        }

        boolean isOfKind(int object, int wanted) {
            return has(object) && kinds[object] == wanted;
        }

        boolean isAgent(int object) {
            return has(object) && kinds[object] == AGENT;
        }

        boolean isAgentWith(int object, int flag) {
            return isAgent(object) && (traits[object] & flag) != 0;
        }

        boolean canHold(int object) {
            return has(object) && (kinds[object] == AGENT || kinds[object] == FACTORY);
        }

        boolean fits(int key, int box) {
            return isOfKind(key, KEY) && isOfKind(box, BOX) && traits[key] == traits[box];
        }

        void declareObject(int ofKind, int trait, int target, int group) {
            if (objectCount >= MAX_OBJECTS) {
                return;
            }
            kinds[objectCount] = ofKind;
            traits[objectCount] = trait;
            targets[objectCount] = target;
            groups[objectCount] = group;
            objectCount++;
        }

        boolean listsReference(int holder, int object) {
            for (int i = 0; i < referenceCount; i++) {
                if (referenceHolders[i] == holder && referenceObjects[i] == object) {
                    return true;
                }
            }
            return false;
        }

        void listReference(int holder, int object) {
            if (referenceCount >= MAX_REFERENCES) {
                return;
            }
            referenceHolders[referenceCount] = holder;
            referenceObjects[referenceCount] = object;
            referenceCount++;
        }

        void unlistReference(int index) {
            for (int i = index; i + 1 < referenceCount; i++) {
                referenceHolders[i] = referenceHolders[i + 1];
                referenceObjects[i] = referenceObjects[i + 1];
            }
            referenceCount--;
        }

        int findRequirement(int holder, int object) {
            for (int i = 0; i < requirementCount; i++) {
                if (requirementHolders[i] == holder && requirementObjects[i] == object) {
                    return i;
                }
            }
            return NOWHERE;
        }

        void addRequirement(int holder, int object) {
            if (requirementCount >= MAX_REQUIREMENTS) {
                return;
            }
            requirementHolders[requirementCount] = holder;
            requirementObjects[requirementCount] = object;
            requirementCount++;
        }

        void dropRequirement(int index) {
            for (int i = index; i + 1 < requirementCount; i++) {
                requirementHolders[i] = requirementHolders[i + 1];
                requirementObjects[i] = requirementObjects[i + 1];
            }
            requirementCount--;
        }

        int countViolations(int[] rows) {
            int violations = 0;
            for (int i = 0; i < requirementCount; i++) {
                if (contains(rows[requirementHolders[i]], requirementObjects[i])) {
                    violations++;
                }
            }
            return violations;
        }

        /** Fills the rows with the initial references, but for those whose bit is set in the removed ones. */
        void fillInitialRows(int[] rows, int removed) {
            Arrays.fill(rows, 0);
            for (int i = 0; i < referenceCount; i++) {
                if (!contains(removed, i)) {
                    rows[referenceHolders[i]] |= bit(referenceObjects[i]);
                }
            }
        }

        void startRun() {
            fillInitialRows(runRows, 0);
        }

        boolean runHolds(int holder, int object) {
            return contains(runRows[holder], object);
        }

        /** Answers how many of the objects the holder did not hold before. */
        int addToRun(int holder, int objects) {
            int added = objects & ~runRows[holder];
            runRows[holder] |= added;
            return Integer.bitCount(added);
        }

        int countRun() {
            int count = 0;
            for (int holder = 0; holder < MAX_OBJECTS; holder++) {
                count += Integer.bitCount(runRows[holder]);
            }
            return count;
        }
    }

    /** The saved states, kept in a ring so that the oldest gives way to a sixth. */
    private static final class History {
        final State[] slots = new State[MAX_SAVED];
        int next = 0;
        int size = 0;

        History() {
            for (int i = 0; i < MAX_SAVED; i++) {
                slots[i] = new State();
            }
        }

        void save(State state) {
            slots[next].copyFrom(state);
            next = (next + 1) % MAX_SAVED;
            size = Math.min(size + 1, MAX_SAVED);
        }

        void restoreInto(State state) {
            if (size <= 0) {
                return;
            }
            next = (next + MAX_SAVED - 1) % MAX_SAVED;
            size--;
            state.copyFrom(slots[next]);
        }
    }

    /** The text, and the reader that makes a system of it. */
    private static final class Text {
        private static final int END = 0;
        private static final int WORD = 1;
        private static final int NUMBER = 2;
        private static final int SEMICOLON = 3;
        private static final int STRAY = 4;
        private static final int MAX_NUMBERS = 3;

        /** The other statements bear the number of the kind that they declare. */
        private static final int HOLD = 4;

        final int[] characters = new int[MAX_TEXT];
        int length = 0;
        /** The token under the reader: its type, its first offset and the offset behind it. */
        private int type = END;
        private int first = 0;
        private int behind = 0;
        private final int[] numbers = new int[MAX_NUMBERS];

        /** Answers the error position, or NOWHERE if the text is a valid system. */
        int readInto(State draft) {
            draft.reset();
            behind = 0;
            advance();
            for (int i = 0; i < MAX_TEXT && type != END; i++) {
                if (!readStatement(draft)) {
                    return first;
                }
            }
            return NOWHERE;
        }

        /** Leaves the reader on the first token that is not allowed, if there is one. */
        private boolean readStatement(State draft) {
            int statement = findStatement();
            if (statement == NOWHERE || isFull(draft, statement)) {
                return false;
            }
            advance();
            int slots = statement == BOX ? 3 : 2;
            for (int slot = 0; slot < slots; slot++) {
                int value = numberValue();
                if (value == NOWHERE || !accepts(draft, statement, slot, value)) {
                    return false;
                }
                numbers[slot] = value;
                advance();
            }
            if (type != SEMICOLON) {
                return false;
            }
            advance();
            perform(draft, statement);
            return true;
        }

        private boolean isFull(State draft, int statement) {
            if (statement == HOLD) {
                return draft.referenceCount >= MAX_REFERENCES;
            }
            return draft.objectCount >= MAX_OBJECTS;
        }

        private boolean accepts(State draft, int statement, int slot, int value) {
            switch (statement) {
                case AGENT:
                    return slot == 0 ? value < BEHAVIOURS : value < GROUPS;
                case BOX:
                    return slot == 0 ? value < BRANDS : slot == 1 ? draft.has(value) : value < GROUPS;
                case KEY:
                    return slot == 0 ? value < BRANDS : value < GROUPS;
                case FACTORY:
                    return slot == 0 ? draft.isAgent(value) : value < GROUPS;
                case HOLD:
                    return slot == 0 ? draft.canHold(value)
                            : draft.has(value) && !draft.listsReference(numbers[0], value);
                default:
                    return false;
            }
        }

        private void perform(State draft, int statement) {
            switch (statement) {
                case AGENT:
                case KEY:
                    draft.declareObject(statement, numbers[0], 0, numbers[1]);
                    break;
                case BOX:
                    draft.declareObject(BOX, numbers[0], numbers[1], numbers[2]);
                    break;
                case FACTORY:
                    draft.declareObject(FACTORY, 0, numbers[0], numbers[1]);
                    break;
                case HOLD:
                    draft.listReference(numbers[0], numbers[1]);
                    break;
                default:
                    break;
            }
        }

        private int findStatement() {
            if (type != WORD) {
                return NOWHERE;
            }
            if (tokenIs("agent")) {
                return AGENT;
            }
            if (tokenIs("box")) {
                return BOX;
            }
            if (tokenIs("key")) {
                return KEY;
            }
            if (tokenIs("factory")) {
                return FACTORY;
            }
            return tokenIs("hold") ? HOLD : NOWHERE;
        }

        private boolean tokenIs(String word) {
            if (behind - first != word.length()) {
                return false;
            }
            for (int i = 0; i < word.length(); i++) {
                if (characters[first + i] != word.charAt(i)) {
                    return false;
                }
            }
            return true;
        }

        private int numberValue() {
            if (type != NUMBER) {
                return NOWHERE;
            }
            int value = characters[first] - '0';
            if (behind - first == 1) {
                return value;
            }
            if (behind - first > 2 || value == 0) {
                return NOWHERE;
            }
            return value * 10 + characters[first + 1] - '0';
        }

        private void advance() {
            first = behind;
            while (first < length && characters[first] == ' ') {
                first++;
            }
            behind = first;
            if (first >= length) {
                type = END;
                return;
            }
            type = typeOf(characters[first]);
            behind++;
            if (type != WORD && type != NUMBER) {
                return;
            }
            while (behind < length && typeOf(characters[behind]) == type) {
                behind++;
            }
        }

        private static int typeOf(int character) {
            if (character >= 'a' && character <= 'z') {
                return WORD;
            }
            if (character >= '0' && character <= '9') {
                return NUMBER;
            }
            return character == ';' ? SEMICOLON : STRAY;
        }
    }

    /** What the rules ask of the objects, as sets with a bit for each object. */
    private static final class Roles {
        int objectCount = 0;
        int givers = 0;
        int takers = 0;
        int keepers = 0;
        int answerers = 0;
        int factories = 0;
        int holders = 0;
        /** The content of a box, the product of a factory. */
        final int[] targets = new int[MAX_OBJECTS];
        /** For a box, the keys of its brand. */
        final int[] openers = new int[MAX_OBJECTS];
        /** The boxes that have the object as content. */
        final int[] wrappers = new int[MAX_OBJECTS];
        /** The factories that have the object as product. */
        final int[] makers = new int[MAX_OBJECTS];
        /** The objects of the object's group. */
        final int[] mates = new int[MAX_OBJECTS];

        void readFrom(State state) {
            objectCount = state.objectCount;
            givers = agentsWith(state, GIVES);
            takers = agentsWith(state, TAKES);
            keepers = agentsWith(state, KEEPS);
            answerers = agentsWith(state, ANSWERS);
            factories = 0;
            holders = 0;
            Arrays.fill(wrappers, 0);
            Arrays.fill(makers, 0);
            for (int object = 0; object < objectCount; object++) {
                readObject(state, object);
            }
        }

        private void readObject(State state, int object) {
            int target = state.targets[object];
            targets[object] = target;
            if (state.isOfKind(object, BOX)) {
                wrappers[target] |= bit(object);
            }
            if (state.isOfKind(object, FACTORY)) {
                makers[target] |= bit(object);
                factories |= bit(object);
            }
            if (state.canHold(object)) {
                holders |= bit(object);
            }
            openers[object] = 0;
            mates[object] = 0;
            for (int other = 0; other < objectCount; other++) {
                if (state.fits(other, object)) {
                    openers[object] |= bit(other);
                }
                if (state.groups[other] == state.groups[object]) {
                    mates[object] |= bit(other);
                }
            }
        }

        private static int agentsWith(State state, int flag) {
            int agents = 0;
            for (int object = 0; object < state.objectCount; object++) {
                if (state.isAgentWith(object, flag)) {
                    agents |= bit(object);
                }
            }
            return agents;
        }
    }

    /** The references that rules 1 to 5 yield, round by round, with their causes. */
    private static final class Analysis {
        /** For each holder, the objects to which references were found in earlier rounds. */
        final int[] rows = new int[MAX_OBJECTS];
        /** For each object, the holders of which references to it were found in earlier rounds. */
        final int[] columns = new int[MAX_OBJECTS];
        final int[] rounds = new int[PAIRS];
        final int[] rules = new int[PAIRS];
        final int[] partners = new int[PAIRS];
        final int[] firstPremises = new int[PAIRS];
        final int[] secondPremises = new int[PAIRS];
        int lastRound = 0;
        /** 1 for each reference that has been put into the queue. */
        private final int[] marks = new int[PAIRS];
        private final int[] queue = new int[PAIRS];
        private int queued = 0;

        void findAll(Roles roles, State state) {
            Arrays.fill(rounds, NONE);
            Arrays.fill(rules, NONE);
            Arrays.fill(partners, NONE);
            Arrays.fill(columns, 0);
            state.fillInitialRows(rows, 0);
            findInitial(roles.objectCount);
            lastRound = 0;
            for (int round = 1; round <= PAIRS && findRound(roles, round); round++) {
                lastRound = round;
            }
        }

        private void findInitial(int count) {
            for (int a = 0; a < count; a++) {
                for (int b = 0; b < count; b++) {
                    if (contains(rows[a], b)) {
                        rounds[pair(a, b)] = 0;
                        rules[pair(a, b)] = 0;
                        columns[b] |= bit(a);
                    }
                }
            }
        }

        /** Answers whether the round finds anything. */
        private boolean findRound(Roles roles, int round) {
            boolean found = false;
            for (int a = 0; a < roles.objectCount; a++) {
                for (int b = 0; b < roles.objectCount; b++) {
                    if (rounds[pair(a, b)] != NONE) {
                        continue;
                    }
                    if (findGift(roles, a, b) || findTaking(roles, a, b) || findEndowment(roles, a, b)) {
                        rounds[pair(a, b)] = round;
                        found = true;
                    }
                }
            }
            // Only now, since the causes of a round come from earlier rounds alone.
            publish(roles.objectCount, round);
            return found;
        }

        private void publish(int count, int round) {
            for (int a = 0; a < count; a++) {
                for (int b = 0; b < count; b++) {
                    if (rounds[pair(a, b)] == round) {
                        rows[a] |= bit(b);
                        columns[b] |= bit(a);
                    }
                }
            }
        }

        /** Looks for rule 1. */
        private boolean findGift(Roles roles, int a, int b) {
            if (!contains(roles.keepers, a)) {
                return false;
            }
            int giver = lowest(roles.givers & columns[a] & (columns[b] | bit(b)));
            if (giver == NOWHERE) {
                return false;
            }
            int gift = giver == b ? NOWHERE : pair(giver, b);
            setCause(pair(a, b), 1, giver, pair(giver, a), gift);
            return true;
        }

        /** Looks for rules 2, 3 and 4, in which the one who takes comes to hold. */
        private boolean findTaking(Roles roles, int a, int b) {
            if (!contains(roles.takers, a)) {
                return false;
            }
            int answerer = lowest(rows[a] & roles.answerers & columns[b]);
            if (answerer != NOWHERE) {
                setCause(pair(a, b), 2, answerer, pair(a, answerer), pair(answerer, b));
                return true;
            }
            int box = findOpenBox(roles, a, b);
            if (box != NOWHERE) {
                int key = lowest(rows[a] & roles.openers[box]);
                setCause(pair(a, b), 3, box, pair(a, box), pair(a, key));
                return true;
            }
            int factory = lowest(rows[a] & roles.makers[b]);
            if (factory != NOWHERE) {
                setCause(pair(a, b), 4, factory, pair(a, factory), NOWHERE);
                return true;
            }
            return false;
        }

        private int findOpenBox(Roles roles, int a, int b) {
            int boxes = rows[a] & roles.wrappers[b];
            for (int box = 0; box < roles.objectCount; box++) {
                if (contains(boxes, box) && (rows[a] & roles.openers[box]) != 0) {
                    return box;
                }
            }
            return NOWHERE;
        }

        /** Looks for rule 5. */
        private boolean findEndowment(Roles roles, int a, int b) {
            int factories = roles.makers[a] & columns[b];
            for (int factory = 0; factory < roles.objectCount; factory++) {
                if (!contains(factories, factory)) {
                    continue;
                }
                int taker = lowest(columns[factory] & roles.takers);
                if (taker != NOWHERE) {
                    setCause(pair(a, b), 5, factory, pair(factory, b), pair(taker, factory));
                    return true;
                }
            }
            return false;
        }

        private void setCause(int reference, int number, int with, int premise, int otherPremise) {
            rules[reference] = number;
            partners[reference] = with;
            firstPremises[reference] = premise;
            secondPremises[reference] = otherPremise;
        }

        /** Counts the references of a derivation that were found after round 0. */
        int countDerived(int reference) {
            Arrays.fill(marks, 0);
            queued = 0;
            enqueue(reference);
            int derived = 0;
            for (int i = 0; i < queued && i < PAIRS; i++) {
                int current = queue[i];
                if (rounds[current] > 0) {
                    derived++;
                    enqueue(firstPremises[current]);
                    enqueue(secondPremises[current]);
                }
            }
            return derived;
        }

        private void enqueue(int reference) {
            if (reference < 0 || reference >= PAIRS || marks[reference] != 0 || queued >= PAIRS) {
                return;
            }
            marks[reference] = 1;
            queue[queued] = reference;
            queued++;
        }
    }

    /** Everything that the rules yield, without rounds and causes. */
    private static final class Closure {
        final int[] rows = new int[MAX_OBJECTS];
        private boolean grown = false;

        void start(State state, int removed) {
            state.fillInitialRows(rows, removed);
        }

        /** Each pass but the last adds a reference, so there are at most as many as pairs, and one. */
        void close(Roles roles, boolean merging) {
            grown = true;
            for (int pass = 0; pass <= PAIRS && grown; pass++) {
                grown = false;
                for (int x = 0; x < roles.objectCount; x++) {
                    applyRules(roles, x);
                    if (merging) {
                        merge(roles, x);
                    }
                }
            }
        }

        private void applyRules(Roles roles, int x) {
            boolean gives = contains(roles.givers, x);
            boolean takes = contains(roles.takers, x);
            for (int y = 0; y < roles.objectCount; y++) {
                if (!contains(rows[x], y)) {
                    continue;
                }
                if (gives && contains(roles.keepers, y)) {
                    grant(y, rows[x] | bit(x));
                }
                if (takes) {
                    takeFrom(roles, x, y);
                }
            }
        }

        private void takeFrom(Roles roles, int x, int y) {
            if (contains(roles.answerers, y)) {
                grant(x, rows[y]);
            }
            if ((roles.openers[y] & rows[x]) != 0) {
                grant(x, bit(roles.targets[y]));
            }
            if (contains(roles.factories, y)) {
                grant(x, bit(roles.targets[y]));
                grant(roles.targets[y], rows[y]);
            }
        }

        private void merge(Roles roles, int x) {
            int merged = 0;
            for (int y = 0; y < roles.objectCount; y++) {
                if (contains(rows[x], y)) {
                    merged |= roles.mates[y];
                }
            }
            int receivers = roles.mates[x] & roles.holders;
            for (int receiver = 0; receiver < roles.objectCount; receiver++) {
                if (contains(receivers, receiver)) {
                    grant(receiver, merged);
                }
            }
        }

        private void grant(int holder, int objects) {
            if ((objects & ~rows[holder]) != 0) {
                rows[holder] |= objects;
                grown = true;
            }
        }
    }
}
