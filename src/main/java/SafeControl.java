/**
 * Supervisors of plants: automata of plants and rules go in step, and what is
 * left of what they do together, when all is taken out that is or must become
 * wrong, is the least restrictive supervisor.
 *
 * States of a supervisor and nodes of a graph are numbered from 1, so that 0
 * says "none" in every row of such numbers.
 */
public final class SafeControl {
    private static final int AUTOMATA = 4;
    private static final int STATES = 6;
    private static final int EVENTS = 12;
    private static final int ALL_EVENTS = 4095;
    private static final int NODES = 200;
    private static final int NODE_ROWS = NODES + 1;
    private static final int EDGE_ROWS = NODE_ROWS * EVENTS;
    /** A product state is one number, its code, with three bits an automaton. */
    private static final int CODE_BITS = 3;
    private static final int CODE_MASK = 7;
    private static final int CODES = 4096;
    private static final int NONE = -1;

    private static final int PLANT = 0;
    private static final int RULE = 1;

    private static final int INITIAL = 0;
    private static final int MARKED = 1;
    private static final int FORBIDDEN = 2;

    private static final int ALLOWED = 0;
    private static final int DISABLED = 1;
    private static final int IMPOSSIBLE = 2;

    private static final int TOO_MANY = -1;
    private static final int NOT_READY = -2;

    private final Automata automata;
    private final Synthesis synthesis;
    private final Pairs pairs;
    private final Supervisor result;
    private final Supervisor underRuleA;
    private final Supervisor underRuleB;
    private boolean resultStands;
    private int place;

    public SafeControl() {
        automata = new Automata();
        // What a synthesis or a search of pairs has found is read off before
        // the next one begins, so all of them share one graph.
        Graph graph = new Graph();
        synthesis = new Synthesis(automata, graph);
        pairs = new Pairs(graph);
        result = new Supervisor();
        underRuleA = new Supervisor();
        underRuleB = new Supervisor();
    }

    public int automaton(int states, int kind) throws IllegalArgumentException, IllegalStateException {
        if (states < 1 || states > STATES || (kind != PLANT && kind != RULE)) {
            throw new IllegalArgumentException();
        }
        if (automata.count == AUTOMATA) {
            throw new IllegalStateException();
        }
        resultStands = false;
        return automata.add(states, kind);
    }

    public boolean event(int event, boolean controllable) throws IllegalArgumentException, IllegalStateException {
        requireEvent(event);
        if (automata.isDeclared(event)) {
            if (automata.isControllable(event) != controllable) {
                throw new IllegalStateException();
            }
            return false;
        }
        resultStands = false;
        automata.declare(event, controllable);
        return true;
    }

    public void edge(int automaton, int from, int event, int to)
            throws IllegalArgumentException, IllegalStateException {
        if (!automata.hasState(automaton, from) || !automata.hasState(automaton, to)) {
            throw new IllegalArgumentException();
        }
        requireEvent(event);
        if (!automata.isDeclared(event) || automata.all[automaton].hasEdge(from, event)) {
            throw new IllegalStateException();
        }
        resultStands = false;
        automata.all[automaton].addEdge(from, event, to);
    }

    public void tell(int automaton, int state, int what, boolean on) throws IllegalArgumentException {
        if (!automata.hasState(automaton, state) || what < INITIAL || what > FORBIDDEN) {
            throw new IllegalArgumentException();
        }
        resultStands = false;
        automata.all[automaton].change(state, what, on);
    }

    public void clear() {
        resultStands = false;
        automata.removeAll();
    }

    public int make() {
        resultStands = false;
        int members = automata.everyone();
        if (!automata.areReady(members)) {
            return NOT_READY;
        }
        if (!synthesis.build(members, result)) {
            return TOO_MANY;
        }
        resultStands = true;
        place = 1;
        return result.count;
    }

    public int says(int state, int event) throws IllegalStateException, IllegalArgumentException {
        requireStateAndEvent(state, event);
        return result.verdict(state, event);
    }

    public int leads(int state, int event) throws IllegalStateException, IllegalArgumentException {
        requireStateAndEvent(state, event);
        return result.target(state, event);
    }

    public int part(int state, int automaton) throws IllegalStateException, IllegalArgumentException {
        requireSupervisor();
        requireState(state);
        if (!automata.hasNumber(automaton)) {
            throw new IllegalArgumentException();
        }
        return Automata.stateIn(result.code[state], automaton);
    }

    public int many(int what) throws IllegalArgumentException, IllegalStateException {
        if (what != 0 && what != 1) {
            throw new IllegalArgumentException();
        }
        requireResult();
        return what == 0 ? result.reached : result.good;
    }

    public int why() throws IllegalStateException {
        requireResult();
        return result.wordLength;
    }

    public int whyEvent(int i) throws IllegalStateException, IndexOutOfBoundsException {
        requireResult();
        if (i < 0 || i >= result.wordLength) {
            throw new IndexOutOfBoundsException();
        }
        return result.wordBackwards[result.wordLength - 1 - i];
    }

    public int conflict(int a, int b) throws IllegalArgumentException {
        if (!automata.isRule(a) || !automata.isRule(b)) {
            throw new IllegalArgumentException();
        }
        if (!superviseUnder(a, underRuleA) || !superviseUnder(b, underRuleB)) {
            return NONE;
        }
        if (!pairs.explore(underRuleA, underRuleB)) {
            return NONE;
        }
        return pairs.haveDeadEnd() ? 1 : 0;
    }

    public int act(int event) throws IllegalStateException, IllegalArgumentException {
        requireSupervisor();
        requireEvent(event);
        int verdict = result.verdict(place, event);
        if (verdict == ALLOWED) {
            place = result.target(place, event);
            return 2;
        }
        return verdict == DISABLED ? 1 : 0;
    }

    public void reset() throws IllegalStateException {
        requireSupervisor();
        place = 1;
    }

    public int here() throws IllegalStateException {
        requireSupervisor();
        return place;
    }

    public int allowed() throws IllegalStateException {
        requireSupervisor();
        int bits = 0;
        for (int event = 0; event < EVENTS; event++) {
            if (result.verdict(place, event) == ALLOWED) {
                bits |= 1 << event;
            }
        }
        return bits;
    }

    public int home() throws IllegalStateException {
        requireSupervisor();
        return result.toMarked[place];
    }

    /** Whether all plants have a supervisor with this rule alone. */
    private boolean superviseUnder(int rule, Supervisor into) {
        int members = automata.plants() | 1 << rule;
        return automata.areReady(members) && synthesis.build(members, into) && into.count > 0;
    }

    private void requireResult() {
        if (!resultStands) {
            throw new IllegalStateException();
        }
    }

    private void requireSupervisor() {
        if (!resultStands || result.count == 0) {
            throw new IllegalStateException();
        }
    }

    private void requireState(int state) {
        if (state < 1 || state > result.count) {
            throw new IllegalArgumentException();
        }
    }

    private static void requireEvent(int event) {
        if (event < 0 || event >= EVENTS) {
            throw new IllegalArgumentException();
        }
    }

    private void requireStateAndEvent(int state, int event) {
        requireSupervisor();
        requireState(state);
        requireEvent(event);
    }

    private static boolean hasBit(int bits, int number) {
        return (bits >> number & 1) == 1;
    }

    /** One plant or rule. */
    private static final class Automaton {
        private int states;
        private int kind;
        private int initial;
        private int markedStates;
        private int forbiddenStates;
        private int events;
        private final int[] eventsFrom = new int[STATES];
        /** By state and event; it says nothing where there is no edge. */
        private final int[] targets = new int[STATES * EVENTS];

        void begin(int newStates, int newKind) {
            states = newStates;
            kind = newKind;
            initial = NONE;
            markedStates = 0;
            forbiddenStates = 0;
            events = 0;
            for (int state = 0; state < STATES; state++) {
                eventsFrom[state] = 0;
            }
        }

        boolean hasEdge(int from, int event) {
            return hasBit(eventsFrom[from], event);
        }

        /** The events in which it takes no part, and those of its edges from the state. */
        int eventsNotStopped(int state) {
            return ~events | eventsFrom[state];
        }

        int follow(int from, int event) {
            return targets[from * EVENTS + event];
        }

        void addEdge(int from, int event, int to) {
            targets[from * EVENTS + event] = to;
            eventsFrom[from] |= 1 << event;
            events |= 1 << event;
        }

        void change(int state, int what, boolean on) {
            if (what == INITIAL) {
                changeInitial(state, on);
            } else if (what == MARKED) {
                markedStates = withBit(markedStates, state, on);
            } else {
                forbiddenStates = withBit(forbiddenStates, state, on);
            }
        }

        private void changeInitial(int state, boolean on) {
            if (on) {
                initial = state;
            } else if (initial == state) {
                initial = NONE;
            }
        }

        private static int withBit(int bits, int number, boolean on) {
            return on ? bits | 1 << number : bits & ~(1 << number);
        }
    }

    /** All automata and events; those that go in step are told as bits, the members. */
    private static final class Automata {
        private final Automaton[] all = new Automaton[AUTOMATA];
        private int count;
        private int declaredEvents;
        private int controllableEvents;

        Automata() {
            for (int i = 0; i < AUTOMATA; i++) {
                all[i] = new Automaton();
            }
        }

        int add(int states, int kind) {
            all[count].begin(states, kind);
            count++;
            return count - 1;
        }

        void removeAll() {
            count = 0;
            declaredEvents = 0;
            controllableEvents = 0;
        }

        void declare(int event, boolean controllable) {
            declaredEvents |= 1 << event;
            if (controllable) {
                controllableEvents |= 1 << event;
            }
        }

        boolean isDeclared(int event) {
            return hasBit(declaredEvents, event);
        }

        boolean isControllable(int event) {
            return hasBit(controllableEvents, event);
        }

        boolean hasNumber(int automaton) {
            return automaton >= 0 && automaton < count;
        }

        boolean hasState(int automaton, int state) {
            return hasNumber(automaton) && state >= 0 && state < all[automaton].states;
        }

        boolean isRule(int automaton) {
            return hasNumber(automaton) && all[automaton].kind == RULE;
        }

        int everyone() {
            return (1 << count) - 1;
        }

        int plants() {
            int members = 0;
            for (int i = 0; i < count; i++) {
                if (all[i].kind == PLANT) {
                    members |= 1 << i;
                }
            }
            return members;
        }

        boolean areReady(int members) {
            for (int i = 0; i < count; i++) {
                if (hasBit(members, i) && all[i].initial == NONE) {
                    return false;
                }
            }
            return plants() != 0;
        }

        static int stateIn(int code, int automaton) {
            return code >> automaton * CODE_BITS & CODE_MASK;
        }

        private static int withState(int code, int automaton, int state) {
            int shift = automaton * CODE_BITS;
            return code & ~(CODE_MASK << shift) | state << shift;
        }

        int firstCode(int members) {
            int code = 0;
            for (int i = 0; i < count; i++) {
                if (hasBit(members, i)) {
                    code = withState(code, i, all[i].initial);
                }
            }
            return code;
        }

        boolean isMarked(int code, int members) {
            for (int i = 0; i < count; i++) {
                if (hasBit(members, i) && !hasBit(all[i].markedStates, stateIn(code, i))) {
                    return false;
                }
            }
            return true;
        }

        boolean isForbidden(int code, int members) {
            for (int i = 0; i < count; i++) {
                if (hasBit(members, i) && hasBit(all[i].forbiddenStates, stateIn(code, i))) {
                    return true;
                }
            }
            return false;
        }

        /** The events that the plants may do. */
        int eventsOfPlants(int code) {
            int had = 0;
            int notStopped = ALL_EVENTS;
            for (int i = 0; i < count; i++) {
                if (all[i].kind == PLANT) {
                    had |= all[i].events;
                    notStopped &= all[i].eventsNotStopped(stateIn(code, i));
                }
            }
            return had & notStopped;
        }

        /** The events that no member stops in its state, be they had by a plant or not. */
        int eventsNotStopped(int code, int members) {
            int bits = ALL_EVENTS;
            for (int i = 0; i < count; i++) {
                if (hasBit(members, i)) {
                    bits &= all[i].eventsNotStopped(stateIn(code, i));
                }
            }
            return bits;
        }

        /** The code behind an event that no member stops. */
        int step(int code, int event, int members) {
            int next = code;
            for (int i = 0; i < count; i++) {
                if (hasBit(members, i) && hasBit(all[i].events, event)) {
                    next = withState(next, i, all[i].follow(stateIn(code, i), event));
                }
            }
            return next;
        }
    }

    /**
     * What is reached, numbered as it is found. An edge's number is that of its
     * node times EVENTS plus its event, so none has number 0.
     */
    private static final class Graph {
        private int count;
        private final int[] numberOfCode = new int[CODES];
        private final int[] code = new int[NODE_ROWS];
        private final boolean[] marked = new boolean[NODE_ROWS];
        private final boolean[] kept = new boolean[NODE_ROWS];
        private final int[] toMarked = new int[NODE_ROWS];
        private final int[] foundBy = new int[NODE_ROWS];
        private final int[] target = new int[EDGE_ROWS];
        /** The edges into a node are a chain: its last one, and the one before each. */
        private final int[] lastInto = new int[NODE_ROWS];
        private final int[] beforeInto = new int[EDGE_ROWS];
        private final int[] queue = new int[NODE_ROWS];

        void begin(int firstCode) {
            for (int node = 1; node <= count; node++) {
                numberOfCode[code[node]] = 0;
            }
            count = 0;
            add(firstCode, 0);
        }

        private void add(int newCode, int edge) {
            count++;
            numberOfCode[newCode] = count;
            code[count] = newCode;
            foundBy[count] = edge;
            lastInto[count] = 0;
            for (int event = 0; event < EVENTS; event++) {
                target[count * EVENTS + event] = 0;
            }
        }

        /** The node to which the edge now leads; 0 when it would be one too many. */
        int link(int from, int event, int toCode) {
            int edge = from * EVENTS + event;
            if (numberOfCode[toCode] == 0) {
                if (count == NODES) {
                    return 0;
                }
                add(toCode, edge);
            }
            int to = numberOfCode[toCode];
            target[edge] = to;
            beforeInto[edge] = lastInto[to];
            lastInto[to] = edge;
            return to;
        }

        /** The kept node to which an event leads, or 0. */
        int keptTarget(int node, int event) {
            int to = target[node * EVENTS + event];
            return to != 0 && kept[to] ? to : 0;
        }

        int countKept() {
            int sum = 0;
            for (int node = 1; node <= count; node++) {
                if (kept[node]) {
                    sum++;
                }
            }
            return sum;
        }

        /** How far it is from each kept node over kept ones to a marked one; NONE when there is no way. */
        void measure() {
            int waiting = 0;
            for (int node = 1; node <= count; node++) {
                boolean isGoal = kept[node] && marked[node];
                toMarked[node] = isGoal ? 0 : NONE;
                if (isGoal) {
                    queue[waiting] = node;
                    waiting++;
                }
            }
            for (int done = 0; done < waiting && done < NODES; done++) {
                waiting = measureInto(queue[done], waiting);
            }
        }

        private int measureInto(int node, int waiting) {
            int end = waiting;
            int edge = lastInto[node];
            for (int i = 0; edge != 0 && i < EDGE_ROWS; i++) {
                int from = edge / EVENTS;
                if (kept[from] && toMarked[from] == NONE) {
                    toMarked[from] = toMarked[node] + 1;
                    queue[end] = from;
                    end++;
                }
                edge = beforeInto[edge];
            }
            return end;
        }

        /** Keeps no node from which no marked one is reached: whether one had to go. */
        boolean dropDeadEnds() {
            boolean dropped = false;
            for (int node = 1; node <= count; node++) {
                if (kept[node] && toMarked[node] == NONE) {
                    kept[node] = false;
                    dropped = true;
                }
            }
            return dropped;
        }
    }

    /** What a synthesis has found, as it is asked for. */
    private static final class Supervisor {
        private int count;
        private int reached;
        private int good;
        /** NONE when nothing is lost. */
        private int wordLength;
        private final int[] wordBackwards = new int[NODE_ROWS];
        private final int[] code = new int[NODE_ROWS];
        private final int[] eventsOfPlants = new int[NODE_ROWS];
        private final int[] toMarked = new int[NODE_ROWS];
        private final int[] targets = new int[EDGE_ROWS];

        int target(int state, int event) {
            return targets[state * EVENTS + event];
        }

        int verdict(int state, int event) {
            if (target(state, event) != 0) {
                return ALLOWED;
            }
            return hasBit(eventsOfPlants[state], event) ? DISABLED : IMPOSSIBLE;
        }

        boolean isMarked(int state) {
            return toMarked[state] == 0;
        }
    }

    /** Makes supervisors: the graph of the product states, of which the good ones are kept. */
    private static final class Synthesis {
        private final Automata automata;
        private final Graph graph;
        private final int[] eventsOfPlants = new int[NODE_ROWS];
        private final int[] stateOfNode = new int[NODE_ROWS];
        private final int[] nodeOfState = new int[NODE_ROWS];

        Synthesis(Automata theAutomata, Graph theGraph) {
            automata = theAutomata;
            graph = theGraph;
        }

        /** Whether the members, which are ready, reach few enough product states. */
        boolean build(int members, Supervisor into) {
            if (!explore(members)) {
                return false;
            }
            keepGood();
            into.reached = graph.count;
            into.good = graph.countKept();
            writeWord(into);
            writeStates(into);
            return true;
        }

        private boolean explore(int members) {
            graph.begin(automata.firstCode(members));
            for (int node = 1; node <= graph.count && node <= NODES; node++) {
                if (!exploreFrom(node, members)) {
                    return false;
                }
            }
            return true;
        }

        private boolean exploreFrom(int node, int members) {
            int code = graph.code[node];
            graph.marked[node] = automata.isMarked(code, members);
            graph.kept[node] = !automata.isForbidden(code, members);
            eventsOfPlants[node] = automata.eventsOfPlants(code);
            int leading = eventsOfPlants[node] & automata.eventsNotStopped(code, members);
            for (int event = 0; event < EVENTS; event++) {
                if (hasBit(leading, event)
                        && graph.link(node, event, automata.step(code, event, members)) == 0) {
                    return false;
                }
            }
            return true;
        }

        /** Each round but the last drops a node; after the last the distances are those of good ones. */
        private void keepGood() {
            boolean dropped = true;
            for (int round = 0; dropped && round <= NODES; round++) {
                dropped = dropUnruly();
                graph.measure();
                if (graph.dropDeadEnds()) {
                    dropped = true;
                }
            }
        }

        /** Goes from the last node to the first, so that most chains fall in one round. */
        private boolean dropUnruly() {
            boolean dropped = false;
            for (int node = graph.count; node >= 1; node--) {
                if (graph.kept[node] && isUnruly(node)) {
                    graph.kept[node] = false;
                    dropped = true;
                }
            }
            return dropped;
        }

        /** Whether the plants may do there what can't be forbidden and leads to no kept node. */
        private boolean isUnruly(int node) {
            int unstoppable = eventsOfPlants[node] & ~automata.controllableEvents;
            for (int event = 0; event < EVENTS; event++) {
                if (hasBit(unstoppable, event) && graph.keptTarget(node, event) == 0) {
                    return true;
                }
            }
            return false;
        }

        /**
         * Nodes are found by the length of their words, and at one length by the
         * order of these: the first lost node has the word that is asked for.
         */
        private void writeWord(Supervisor into) {
            int node = firstLost();
            if (node == 0) {
                into.wordLength = NONE;
                return;
            }
            int length = 0;
            while (node > 1 && length < NODES) {
                into.wordBackwards[length] = graph.foundBy[node] % EVENTS;
                node = graph.foundBy[node] / EVENTS;
                length++;
            }
            into.wordLength = length;
        }

        private int firstLost() {
            for (int node = 1; node <= graph.count; node++) {
                if (!graph.kept[node]) {
                    return node;
                }
            }
            return 0;
        }

        private void writeStates(Supervisor into) {
            into.count = 0;
            for (int node = 1; node <= graph.count; node++) {
                stateOfNode[node] = 0;
            }
            if (graph.kept[1]) {
                stateFor(1, into);
            }
            for (int state = 1; state <= into.count && state <= NODES; state++) {
                writeState(state, into);
            }
        }

        private void writeState(int state, Supervisor into) {
            int node = nodeOfState[state];
            into.code[state] = graph.code[node];
            into.eventsOfPlants[state] = eventsOfPlants[node];
            into.toMarked[state] = graph.toMarked[node];
            for (int event = 0; event < EVENTS; event++) {
                int to = graph.keptTarget(node, event);
                into.targets[state * EVENTS + event] = to == 0 ? 0 : stateFor(to, into);
            }
        }

        private int stateFor(int node, Supervisor into) {
            if (stateOfNode[node] == 0) {
                into.count++;
                stateOfNode[node] = into.count;
                nodeOfState[into.count] = node;
            }
            return stateOfNode[node];
        }
    }

    /** The pairs of states that two supervisors reach when both must allow an event. */
    private static final class Pairs {
        private final Graph graph;
        private final int[] stateOfA = new int[NODE_ROWS];
        private final int[] stateOfB = new int[NODE_ROWS];

        Pairs(Graph theGraph) {
            graph = theGraph;
        }

        /** Whether there are few enough pairs. */
        boolean explore(Supervisor a, Supervisor b) {
            graph.begin(pairCode(a, 1, b, 1));
            stateOfA[1] = 1;
            stateOfB[1] = 1;
            for (int node = 1; node <= graph.count && node <= NODES; node++) {
                if (!exploreFrom(node, a, b)) {
                    return false;
                }
            }
            return true;
        }

        /** In both states of a pair the plants went the same way, so one code holds both. */
        private static int pairCode(Supervisor a, int stateA, Supervisor b, int stateB) {
            return a.code[stateA] | b.code[stateB];
        }

        private boolean exploreFrom(int node, Supervisor a, Supervisor b) {
            graph.marked[node] = a.isMarked(stateOfA[node]) && b.isMarked(stateOfB[node]);
            graph.kept[node] = true;
            for (int event = 0; event < EVENTS; event++) {
                int nextA = a.target(stateOfA[node], event);
                int nextB = b.target(stateOfB[node], event);
                if (nextA != 0 && nextB != 0) {
                    int to = graph.link(node, event, pairCode(a, nextA, b, nextB));
                    if (to == 0) {
                        return false;
                    }
                    stateOfA[to] = nextA;
                    stateOfB[to] = nextB;
                }
            }
            return true;
        }

        boolean haveDeadEnd() {
            graph.measure();
            return graph.dropDeadEnds();
        }
    }
}
