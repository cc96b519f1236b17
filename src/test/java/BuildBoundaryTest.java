/** Promises 1 to 7: each sentence that names a boundary case has a test of its own. */
public final class BuildBoundaryTest {
    private static final int PLANT = Asked.PLANT;
    private static final int RULE = Asked.RULE;
    private static final int INITIAL = Asked.INITIAL;
    private static final int MARKED = Asked.MARKED;
    private static final int FORBIDDEN = Asked.FORBIDDEN;

    public static void main(String[] args) {
        newObject();
        automatonNumbers();
        automatonRefusals();
        eventAnswers();
        eventRefusals();
        edgeNumbers();
        edgeStates();
        tellNumbers();
        tellInitial();
        tellMarkedAndForbidden();
        clearAutomata();
        clearEventsAndEdges();
        clearStates();
        makeWithoutPlant();
        makeWithoutInitial();
        makeLimit();
        makeAnswers();
        Check.end();
    }

    // ---- promise 1

    private static void newObject() {
        Check.sentence("Promise 1", "No automata");
        Asked q = new Asked("new");
        q.due(Check.ARGUMENT).tell(0, 0, INITIAL, true);
        q.due(Check.ARGUMENT).edge(0, 0, 0, 0);
        q.due(Check.ARGUMENT).conflict(0, 0);
        q.due(-2).make();
        q.due(0).automaton(1, PLANT);

        Check.sentence("Promise 1", "no events");
        q = new Asked("new");
        q.automaton(1, PLANT);
        for (int e = 0; e < Asked.EVENTS; e++) {
            q.due(Check.STATE).edge(0, 0, e, 0);
            q.due(1).event(e, e % 2 == 0);
        }

        Check.sentence("Promise 1", "and so no result");
        new Asked("new").hasNoResult();
    }

    // ---- promise 2

    private static void automatonNumbers() {
        Check.sentence("Promise 2", "One more automaton: its number.");
        Asked q = new Asked("four");
        q.due(0).automaton(1, PLANT);
        q.due(1).automaton(6, RULE);
        q.due(2).automaton(6, PLANT);
        q.due(3).automaton(1, RULE);
        q = new Asked("four");
        q.due(0).automaton(6, RULE);
        q.due(1).automaton(1, RULE);
        q.due(2).automaton(1, PLANT);
        q.due(3).automaton(6, PLANT);

        Check.sentence("Promise 2", "All results go.");
        for (int kind = PLANT; kind <= RULE; kind++) {
            q = Examples.pressed("press");
            q.due(1).automaton(1, kind);
            q.hasNoResult();
            q = Examples.lostAtOnce("lost");
            q.due(1).automaton(6, kind);
            q.hasNoResult();
        }
    }

    private static void automatonRefusals() {
        Check.sentence("Promise 2", "IllegalArgumentException: states is not 1 .. 6");
        Asked q = Examples.pressed("press");
        for (int kind = PLANT; kind <= RULE; kind++) {
            q.due(Check.ARGUMENT).automaton(0, kind);
            q.due(Check.ARGUMENT).automaton(7, kind);
            for (int far : Examples.FAR) {
                q.due(Check.ARGUMENT).automaton(far, kind);
            }
        }
        Examples.pressStays(q);
        q.due(1).automaton(6, RULE);

        Check.sentence("Promise 2", "IllegalArgumentException: kind not 0 or 1");
        q = Examples.pressed("press");
        for (int states = 1; states <= 6; states += 5) {
            q.due(Check.ARGUMENT).automaton(states, 2);
            for (int far : Examples.FAR) {
                q.due(Check.ARGUMENT).automaton(states, far);
            }
        }
        Examples.pressStays(q);
        q.due(1).automaton(1, PLANT);

        Check.sentence("Promise 2", "IllegalStateException: there are 4");
        q = Examples.press("press");
        q.add(1, 1, RULE, 1).add(2, 1, RULE, 1).add(3, 1, PLANT, 1);
        q.due(2).make();
        q.due(2).act(2);
        for (int states = 1; states <= 6; states++) {
            q.due(Check.STATE).automaton(states, PLANT);
            q.due(Check.STATE).automaton(states, RULE);
        }
        Examples.pressStays(q);
        q.due(Check.ARGUMENT).part(1, 4);
        q.due(Check.ARGUMENT).tell(4, 0, MARKED, true);
    }

    // ---- promise 3

    private static void eventAnswers() {
        Check.sentence("Promise 3", "Declares an event");
        Asked q = new Asked("events");
        q.due(1).event(0, true);
        q.due(1).event(11, false);
        q.due(1).event(10, true);
        q.due(1).event(1, false);
        q.add(0, 1, PLANT, 1);
        q.done().edge(0, 0, 0, 0);
        q.done().edge(0, 0, 11, 0);
        q.due(Check.STATE).edge(0, 0, 2, 0);
        q.due(Check.STATE).edge(0, 0, 9, 0);

        Check.sentence("Promise 3", "false, and nothing done, when it is declared so");
        q = Examples.pressed("press");
        for (int e = 0; e < 4; e++) {
            q.due(0).event(e, e % 2 == 0);
            q.due(0).event(e, e % 2 == 0);
        }
        Examples.pressStays(q);

        Check.sentence("Promise 3", "All results go (when true).");
        for (int e = 4; e < Asked.EVENTS; e += 7) {
            q = Examples.pressed("press");
            q.due(1).event(e, true);
            q.hasNoResult();
            q = Examples.lostAtOnce("lost");
            q.due(1).event(e, false);
            q.hasNoResult();
        }
    }

    private static void eventRefusals() {
        Check.sentence("Promise 3", "IllegalArgumentException: event is not 0 .. 11");
        Asked q = Examples.pressed("press");
        for (int i = 0; i < 2; i++) {
            q.due(Check.ARGUMENT).event(12, i == 0);
            q.due(Check.ARGUMENT).event(32, i == 0);
            for (int far : Examples.FAR) {
                q.due(Check.ARGUMENT).event(far, i == 0);
            }
        }
        Examples.pressStays(q);

        Check.sentence("Promise 3", "IllegalStateException: it is declared otherwise");
        q = Examples.pressed("press");
        for (int e = 0; e < 4; e++) {
            q.due(Check.STATE).event(e, e % 2 != 0);
            q.due(0).event(e, e % 2 == 0);
        }
        Examples.pressStays(q);
        q.due(2).make();
        q = new Asked("edges of the events");
        q.due(1).event(0, false);
        q.due(1).event(11, true);
        q.due(Check.STATE).event(0, true);
        q.due(Check.STATE).event(11, false);
        q.due(0).event(0, false);
        q.due(0).event(11, true);
    }

    // ---- promise 4

    private static void edgeNumbers() {
        Check.sentence("Promise 4", "One more edge. All results go.");
        Asked q = Examples.pressed("press");
        q.done().edge(0, 2, 0, 2);
        q.hasNoResult();
        q.due(2).make();
        q = Examples.lostAtOnce("lost");
        q.done().edge(0, 0, 1, 0);
        q.hasNoResult();

        Check.sentence("Promise 4", "IllegalArgumentException: no such automaton");
        q = Examples.pressed("press");
        q.due(Check.ARGUMENT).edge(1, 0, 0, 0);
        q.due(Check.ARGUMENT).edge(4, 0, 0, 0);
        for (int far : Examples.FAR) {
            q.due(Check.ARGUMENT).edge(far, 0, 0, 0);
        }
        Examples.pressStays(q);
        q.add(1, 1, RULE, 1).add(2, 1, RULE, 1).add(3, 1, PLANT, 1);
        q.due(Check.ARGUMENT).edge(4, 0, 0, 0);
        q.done().edge(3, 0, 0, 0);

        Check.sentence("Promise 4", "IllegalArgumentException: no such event");
        q = Examples.pressed("press");
        q.due(Check.ARGUMENT).edge(0, 2, 12, 2);
        q.due(Check.ARGUMENT).edge(0, 2, 32, 2);
        for (int far : Examples.FAR) {
            q.due(Check.ARGUMENT).edge(0, 2, far, 2);
        }
        Examples.pressStays(q);

        Check.sentence("Promise 4", "IllegalStateException: the event is not declared");
        q = Examples.pressed("press");
        for (int e = 4; e < Asked.EVENTS; e++) {
            q.due(Check.STATE).edge(0, 2, e, 2);
        }
        Examples.pressStays(q);
        q.event(11, true);
        q.due(Check.STATE).edge(0, 2, 10, 2);
        q.done().edge(0, 2, 11, 2);
    }

    private static void edgeStates() {
        Check.sentence("Promise 4", "IllegalArgumentException: no such states");
        Asked q = Examples.pressed("press");
        q.due(Check.ARGUMENT).edge(0, 4, 0, 0);
        q.due(Check.ARGUMENT).edge(0, 2, 0, 4);
        for (int far : Examples.FAR) {
            q.due(Check.ARGUMENT).edge(0, far, 0, 0);
            q.due(Check.ARGUMENT).edge(0, 2, 0, far);
        }
        Examples.pressStays(q);
        q.add(1, 1, RULE, 1).add(2, 6, RULE, 1);
        q.due(Check.ARGUMENT).edge(1, 1, 0, 0);
        q.due(Check.ARGUMENT).edge(1, 0, 0, 1);
        q.due(Check.ARGUMENT).edge(2, 6, 0, 0);
        q.due(Check.ARGUMENT).edge(2, 0, 0, 6);
        q.done().edge(2, 5, 0, 0);
        q.done().edge(2, 0, 0, 5);
        q.done().edge(1, 0, 0, 0);

        Check.sentence("Promise 4", "IllegalStateException: there is an edge with it from that state");
        q = Examples.pressed("press");
        for (int to = 0; to < 4; to++) {
            q.due(Check.STATE).edge(0, 0, 0, to);
            q.due(Check.STATE).edge(0, 3, 3, to);
        }
        Examples.pressStays(q);
        q.due(2).make();
        q.due(1).says(1, 0);
        q.due(1).leads(2, 3);

        Check.sentence("Promise 4", "another event, another state or another automaton has an edge of its own");
        q = Examples.press("press");
        q.add(1, 1, RULE, 1);
        q.done().edge(0, 0, 1, 1);
        q.done().edge(0, 1, 0, 1);
        q.done().edge(1, 0, 0, 0);
    }

    // ---- promise 5

    private static void tellNumbers() {
        for (int i = 0; i < 2; i++) {
            boolean on = i == 0;
            Check.sentence("Promise 5", "IllegalArgumentException: no such automaton (on " + on + ")");
            Asked q = Examples.pressed("press");
            for (int what = INITIAL; what <= FORBIDDEN; what++) {
                q.due(Check.ARGUMENT).tell(1, 0, what, on);
                q.due(Check.ARGUMENT).tell(4, 0, what, on);
                for (int far : Examples.FAR) {
                    q.due(Check.ARGUMENT).tell(far, 0, what, on);
                }
            }
            Examples.pressStays(q);

            Check.sentence("Promise 5", "IllegalArgumentException: no such state (on " + on + ")");
            q = Examples.pressed("press");
            for (int what = INITIAL; what <= FORBIDDEN; what++) {
                q.due(Check.ARGUMENT).tell(0, 4, what, on);
                q.due(Check.ARGUMENT).tell(0, 6, what, on);
                for (int far : Examples.FAR) {
                    q.due(Check.ARGUMENT).tell(0, far, what, on);
                }
            }
            Examples.pressStays(q);

            Check.sentence("Promise 5", "IllegalArgumentException: no such what (on " + on + ")");
            q = Examples.pressed("press");
            q.due(Check.ARGUMENT).tell(0, 0, 3, on);
            for (int far : Examples.FAR) {
                q.due(Check.ARGUMENT).tell(0, 0, far, on);
            }
            Examples.pressStays(q);

            Check.sentence("Promise 5", "All results go. (on " + on + ")");
            for (int what = INITIAL; what <= FORBIDDEN; what++) {
                for (int state = 0; state < 4; state++) {
                    q = Examples.pressed("press, tell " + state + " " + what);
                    q.done().tell(0, state, what, on);
                    q.hasNoResult();
                }
            }
        }
    }

    private static void tellInitial() {
        Check.sentence("Promise 5", "A state becomes the initial one (what 0)");
        Asked q = new Asked("initial").events(1, 0);
        q.automaton(6, PLANT);
        for (int s = 0; s < 6; s++) {
            q.tell(0, s, MARKED, true);
        }
        int[] order = {5, 0, 3, 3};
        for (int s : order) {
            q.done().tell(0, s, INITIAL, true);
            q.due(1).make();
            q.due(s).part(1, 0);
        }

        Check.sentence("Promise 5", "the former initial one is a state like others");
        Asked f = new Asked("former").events(1, 0).add(0, 2, PLANT, 0b11);
        f.edge(0, 1, 0, 0);
        f.due(1).make();
        f.tell(0, 1, INITIAL, true);
        f.due(2).make();
        f.due(1).part(1, 0);
        f.due(0).part(2, 0);
        f.due(2).leads(1, 0);

        Check.sentence("Promise 5", "or (on false) is it no more: what 0");
        q.done().tell(0, 5, INITIAL, false);
        q.done().tell(0, 0, INITIAL, false);
        q.due(1).make();
        q.due(3).part(1, 0);
        q.done().tell(0, 3, INITIAL, false);
        q.due(-2).make();
        q.done().tell(0, 3, INITIAL, false);
        q.due(-2).make();
        q.done().tell(0, 0, INITIAL, true);
        q.due(1).make();
        q.due(0).part(1, 0);
        q.done().tell(0, 0, INITIAL, false);
        q.due(-2).make();
    }

    private static void tellMarkedAndForbidden() {
        Check.sentence("Promise 5", "marked (1), or (on false) is it no more");
        for (int s = 0; s < 6; s += 5) {
            Asked q = new Asked("marked " + s);
            q.automaton(6, PLANT);
            q.tell(0, s, INITIAL, true);
            q.done().tell(0, 5 - s, MARKED, true);
            q.done().tell(0, s, MARKED, false);
            q.due(0).make();
            q.done().tell(0, s, MARKED, true);
            q.done().tell(0, s, MARKED, true);
            q.due(1).make();
            q.done().tell(0, 5 - s, MARKED, false);
            q.due(1).make();
            q.done().tell(0, s, MARKED, false);
            q.due(0).make();
            q.done().tell(0, s, MARKED, true);
            q.due(1).make();
        }

        Check.sentence("Promise 5", "or forbidden (2), or (on false) is it no more");
        for (int s = 0; s < 6; s += 5) {
            Asked q = new Asked("forbidden " + s);
            q.automaton(6, PLANT);
            q.tell(0, s, INITIAL, true);
            q.tell(0, s, MARKED, true);
            q.done().tell(0, s, FORBIDDEN, false);
            q.due(1).make();
            q.done().tell(0, 5 - s, FORBIDDEN, true);
            q.due(1).make();
            q.done().tell(0, s, FORBIDDEN, true);
            q.done().tell(0, s, FORBIDDEN, true);
            q.due(0).make();
            q.done().tell(0, 5 - s, FORBIDDEN, false);
            q.due(0).make();
            q.done().tell(0, s, FORBIDDEN, false);
            q.due(1).make();
        }
    }

    // ---- promise 6

    private static void clearAutomata() {
        Check.sentence("Promise 6", "Everything goes: results");
        Asked q = Examples.pressed("press");
        q.done().clear();
        q.hasNoResult();
        q = Examples.lostAtOnce("lost");
        q.done().clear();
        q.hasNoResult();
        q = new Asked("new");
        q.done().clear();
        q.done().clear();
        q.hasNoResult();

        Check.sentence("Promise 6", "Everything goes: automata");
        q = new Asked("four");
        q.add(0, 6, PLANT, 1).add(1, 6, RULE, 1).add(2, 6, RULE, 1).add(3, 6, RULE, 1);
        q.due(1).make();
        q.clear();
        q.due(-2).make();
        q.due(Check.ARGUMENT).tell(0, 0, INITIAL, true);
        q.due(Check.ARGUMENT).edge(3, 0, 0, 0);
        q.due(Check.ARGUMENT).conflict(1, 2);
        q.add(0, 1, RULE, 1);
        q.due(Check.ARGUMENT).tell(0, 1, MARKED, true);
        q.due(Check.ARGUMENT).tell(1, 0, MARKED, true);
        q.due(-2).make();
        q.add(1, 2, PLANT, 1);
        q.due(Check.ARGUMENT).conflict(0, 1);
        q.due(Check.ARGUMENT).conflict(0, 2);
        q.due(0).conflict(0, 0);
        q.due(1).make();
        q.due(Check.ARGUMENT).part(1, 2);
        q.due(2).automaton(6, PLANT);
        q.due(3).automaton(6, PLANT);
        q.due(Check.STATE).automaton(6, PLANT);

        Check.sentence("Promise 6", "Everything goes: where the plants are");
        q = Examples.pressed("press");
        q.clear();
        q.event(2, true);
        q.add(0, 4, PLANT, 0b1111);
        q.edge(0, 0, 2, 3);
        q.due(2).make();
        q.due(1).here();
    }

    private static void clearEventsAndEdges() {
        Check.sentence("Promise 6", "Everything goes: events");
        Asked q = new Asked("events").events(12, 0b101010101010);
        q.clear();
        q.automaton(1, PLANT);
        for (int e = 0; e < Asked.EVENTS; e++) {
            q.due(Check.STATE).edge(0, 0, e, 0);
        }
        for (int e = 0; e < Asked.EVENTS; e++) {
            q.due(1).event(e, e % 2 == 1);
            q.due(Check.STATE).event(e, e % 2 == 0);
        }
        // Event 0 could be forbidden before, and can't be now: what it leads to is lost, and so is the first.
        q.clear();
        q.event(0, false);
        q.add(0, 2, PLANT, 0b01);
        q.edge(0, 0, 0, 1);
        q.due(0).make();

        Check.sentence("Promise 6", "Everything goes: edges");
        q = Examples.press("press");
        q.clear();
        q.events(4, 0).add(0, 4, PLANT, 0b1111);
        q.due(1).make();
        q.due(1).many(0);
        for (int e = 0; e < 4; e++) {
            q.due(2).says(1, e);
        }
        for (int s = 0; s < 4; s++) {
            for (int e = 0; e < 4; e++) {
                q.done().edge(0, s, e, s);
            }
        }
        q = new Asked("a ring that was").events(2, 0).add(0, 2, PLANT, 0b01);
        q.edge(0, 0, 0, 1);
        q.edge(0, 1, 1, 0);
        q.due(2).make();
        q.clear();
        q.events(2, 0).add(0, 2, PLANT, 0b01);
        q.edge(0, 0, 0, 1);
        q.due(1).make();
        q.due(1).many(1);
        q = Examples.press("an automaton that had events");
        q.clear();
        q.events(1, 0).add(0, 4, PLANT, 0b1111).add(1, 2, PLANT, 0b11);
        q.edge(1, 0, 0, 1);
        q.edge(1, 1, 0, 0);
        q.due(2).make();
        q.due(0).part(2, 0);
        q.due(1).leads(2, 0);
    }

    private static void clearStates() {
        Check.sentence("Promise 6", "Everything goes: which states are initial");
        Asked q = new Asked("initial");
        q.add(0, 2, PLANT, 0b11);
        q.due(1).make();
        q.clear();
        q.automaton(2, PLANT);
        q.due(-2).make();

        Check.sentence("Promise 6", "Everything goes: which states are marked");
        q = new Asked("marked");
        q.add(0, 6, PLANT, 0b111111);
        q.due(1).make();
        q.clear();
        q.add(0, 6, PLANT, 0);
        q.due(0).make();
        q.tell(0, 5, INITIAL, true);
        q.due(0).make();

        Check.sentence("Promise 6", "Everything goes: which states are forbidden");
        q = new Asked("forbidden");
        q.add(0, 6, PLANT, 0b111111);
        q.tell(0, 0, FORBIDDEN, true);
        q.tell(0, 5, FORBIDDEN, true);
        q.due(0).make();
        q.clear();
        q.add(0, 6, PLANT, 0b111111);
        q.due(1).make();
        q.tell(0, 5, INITIAL, true);
        q.due(1).make();
    }

    // ---- promise 7

    private static void makeWithoutPlant() {
        Check.sentence("Promise 7", "-2 when there is no plant");
        Asked q = new Asked("rules");
        q.due(-2).make();
        q.hasNoResult();
        q.events(1, 0);
        q.due(-2).make();
        for (int i = 0; i < 3; i++) {
            q.add(i, 1, RULE, 1);
            q.loops(i, 0, 0);
            q.due(-2).make();
        }
        q.hasNoResult();
        q.add(3, 1, PLANT, 1);
        q.due(1).make();
        q = new Asked("four rules");
        q.add(0, 1, RULE, 1).add(1, 1, RULE, 1).add(2, 1, RULE, 1).add(3, 1, RULE, 1);
        q.due(-2).make();
    }

    private static void makeWithoutInitial() {
        Check.sentence("Promise 7", "-2 when an automaton has no initial state");
        for (int without = 0; without < 4; without++) {
            Asked q = new Asked("without initial " + without);
            for (int i = 0; i < 4; i++) {
                q.add(i, 2, i % 2 == 0 ? PLANT : RULE, 0b11);
            }
            q.due(1).make();
            q.tell(without, 0, INITIAL, false);
            q.due(-2).make();
            q.hasNoResult();
            q.tell(without, 1, INITIAL, true);
            q.due(1).make();
        }
        Asked q = Examples.pressed("press");
        q.automaton(1, RULE);
        q.due(-2).make();
        q.hasNoResult();
    }

    private static void makeLimit() {
        for (int kind = PLANT; kind <= RULE; kind++) {
            Check.sentence("Promise 7", "exactly 200 product states are not more than 200");
            Asked q = Examples.grid("grid " + kind, kind);
            q.due(200).make();
            q.due(200).many(0);
            q.due(200).many(1);

            Check.sentence("Promise 7", "-1 when more than 200 product states are reached");
            Examples.oneMore(q);
            q.due(-1).make();
            q.hasNoResult();
            q.tell(0, 1, FORBIDDEN, true);
            q.due(-1).make();
            q.tell(0, 0, FORBIDDEN, true);
            q.due(-1).make();
            q.hasNoResult();
            q.tell(0, 4, INITIAL, true);
            q.due(41).make();
            q.due(41).many(0);
        }

        Check.sentence("Promise 7", "200 are counted when they are reached, not when they are there");
        Asked q = new Asked("1296").add(0, 6, PLANT, 1).add(1, 6, PLANT, 1).add(2, 6, RULE, 1).add(3, 6, PLANT, 1);
        q.due(1).make();

        Check.sentence("Promise 7", "exactly 200, one behind the other");
        q = Examples.counter("counter");
        q.tell(0, 4, MARKED, true);
        q.tell(1, 4, MARKED, true);
        q.tell(2, 3, MARKED, true);
        q.tell(3, 1, MARKED, true);
        q.due(200).make();
        q.due(4).part(200, 0);
        q.due(4).part(200, 1);
        q.due(3).part(200, 2);
        q.due(1).part(200, 3);
    }

    private static void makeAnswers() {
        Check.sentence("Promise 7", "how many states it has");
        Asked q = Examples.alone("alone");
        q.due(1).make();
        q = Examples.press("press");
        q.due(2).make();

        Check.sentence("Promise 7", "0 when there is none");
        q = Examples.lostAtOnce("lost");
        q.due(0).make();
        q.hasNoSupervisor();

        Check.sentence("Promise 7", "What is 0 or above is a RESULT");
        q.due(2).many(0);
        q.due(0).many(1);
        q.due(0).why();
        q.due(Check.INDEX).whyEvent(0);
        q = Examples.alone("alone");
        q.due(1).many(0);
        q.due(1).many(1);
        q.due(-1).why();

        Check.sentence("Promise 7", "The plants are at the beginning.");
        q = Examples.press("press");
        q.due(2).make();
        q.due(1).here();
        q.due(2).act(2);
        q.due(2).here();
        q.due(2).make();
        q.due(1).here();
        q.due(0b100).allowed();
        q.due(0).home();
        q.due(2).act(2);
        q.tell(0, 1, MARKED, false);
        q.due(2).make();
        q.due(1).here();
    }

    private BuildBoundaryTest() {
    }
}
