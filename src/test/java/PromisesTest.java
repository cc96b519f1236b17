/** Promise by promise: ordinary inputs, the edges that the document names, and wrong inputs. */
public final class PromisesTest {
    private static final boolean YES = true;
    private static final boolean NO = false;

    public static void main(String[] args) {
        promise1();
        promise2();
        promise3();
        promise4();
        promise5();
        promise6();
        promise7Refusals();
        promise7Limit();
        promise7Good();
        promise7Order();
        promises8And9();
        promise10();
        promise11();
        promises12And13();
        promise14();
        promise14Refusals();
        promise14Limits();
        promises15To17();
        promise18();
        promise19();
        Check.end();
    }

    // ---- plants to ask about

    private static SafeControl withEvents(int declared, int uncontrollableBits) {
        SafeControl x = new SafeControl();
        for (int e = 0; e < declared; e++) {
            x.event(e, (uncontrollableBits >> e & 1) == 0);
        }
        return x;
    }

    /** An automaton whose initial state is 0 and whose marked states are told as bits. */
    private static int add(SafeControl x, int states, int kind, int markedBits) {
        int number = x.automaton(states, kind);
        x.tell(number, 0, 0, YES);
        for (int s = 0; s < states; s++) {
            if ((markedBits >> s & 1) == 1) {
                x.tell(number, s, 1, YES);
            }
        }
        return number;
    }

    private static void line(SafeControl x, int automaton, int states, int event) {
        for (int s = 0; s + 1 < states; s++) {
            x.edge(automaton, s, event, s + 1);
        }
    }

    private static void everywhere(SafeControl x, int automaton, int states, int event) {
        for (int s = 0; s < states; s++) {
            x.edge(automaton, s, event, s);
        }
    }

    /**
     * From 0 event 0 goes to 1, whence event 1, which can't be forbidden, goes to the forbidden 2;
     * from 0 event 2 goes to 3, whence event 3, which can't be forbidden either, goes home.
     */
    private static SafeControl press() {
        SafeControl x = withEvents(4, 0b1010);
        add(x, 4, 0, 0b0001);
        x.tell(0, 2, 2, YES);
        x.edge(0, 0, 0, 1);
        x.edge(0, 1, 1, 2);
        x.edge(0, 0, 2, 3);
        x.edge(0, 3, 3, 0);
        return x;
    }

    /**
     * Machines 0 and 1 start by events 0 and 2 and end by events 1 and 3, which can't be forbidden;
     * rule 2 is a buffer for one piece between them.
     */
    private static SafeControl factory() {
        SafeControl x = withEvents(4, 0b1010);
        for (int machine = 0; machine < 2; machine++) {
            add(x, 2, 0, 0b01);
            x.edge(machine, 0, 2 * machine, 1);
            x.edge(machine, 1, 2 * machine + 1, 0);
        }
        add(x, 2, 1, 0b01);
        x.edge(2, 0, 1, 1);
        x.edge(2, 1, 2, 0);
        return x;
    }

    /** One state that is home, and nothing lost. */
    private static SafeControl made() {
        SafeControl x = withEvents(1, 0);
        add(x, 1, 0, 1);
        x.make();
        return x;
    }

    /** A first state that nothing marked can be reached from: a result, but no supervisor. */
    private static SafeControl madeWithout() {
        SafeControl x = withEvents(1, 0);
        add(x, 2, 0, 0);
        x.make();
        return x;
    }

    private static void resultStays(String after, SafeControl x) {
        Check.due("here() after " + after, 1, x::here);
        Check.due("why() after " + after, -1, x::why);
    }

    private static void resultGoes(String after, SafeControl x) {
        noSupervisor("after " + after, x);
        Check.due("many(0) after " + after, Check.STATE, () -> x.many(0));
        Check.due("why() after " + after, Check.STATE, x::why);
        Check.due("whyEvent(0) after " + after, Check.STATE, () -> x.whyEvent(0));
        Check.due("whyEvent(-1) after " + after, Check.STATE, () -> x.whyEvent(-1));
    }

    private static void noSupervisor(String when, SafeControl x) {
        Check.due("says(1, 0) " + when, Check.STATE, () -> x.says(1, 0));
        Check.due("says(0, 12) " + when, Check.STATE, () -> x.says(0, 12));
        Check.due("leads(1, 0) " + when, Check.STATE, () -> x.leads(1, 0));
        Check.due("leads(0, -1) " + when, Check.STATE, () -> x.leads(0, -1));
        Check.due("part(1, 0) " + when, Check.STATE, () -> x.part(1, 0));
        Check.due("part(0, 4) " + when, Check.STATE, () -> x.part(0, 4));
        Check.due("act(0) " + when, Check.STATE, () -> x.act(0));
        Check.due("act(12) " + when, Check.STATE, () -> x.act(12));
        Check.dueDeed("reset() " + when, Check.STATE, x::reset);
        Check.due("here() " + when, Check.STATE, x::here);
        Check.due("allowed() " + when, Check.STATE, x::allowed);
        Check.due("home() " + when, Check.STATE, x::home);
    }

    // ---- the promises

    private static void promise1() {
        SafeControl x = new SafeControl();
        resultGoes("new", x);
        Check.due("new make()", -2, x::make);
        Check.due("new conflict(0, 0)", Check.ARGUMENT, () -> x.conflict(0, 0));
        Check.dueDeed("new tell(0, 0, 0, true)", Check.ARGUMENT, () -> x.tell(0, 0, 0, YES));
        Check.due("new automaton(1, 0)", 0, () -> x.automaton(1, 0));
        for (int e = 0; e < 12; e++) {
            int event = e;
            Check.dueDeed("new edge(0, 0, " + e + ", 0)", Check.STATE, () -> x.edge(0, 0, event, 0));
            Check.due("new event(" + e + ", false)", 1, () -> x.event(event, NO));
        }
    }

    private static void promise2() {
        SafeControl x = made();
        for (int[] wrong : new int[][] {{0, 0}, {-1, 1}, {7, 0}, {1, -1}, {6, 2}, {Integer.MIN_VALUE, 0},
                {Integer.MAX_VALUE, 1}}) {
            Check.due("automaton(" + wrong[0] + ", " + wrong[1] + ")", Check.ARGUMENT,
                    () -> x.automaton(wrong[0], wrong[1]));
        }
        resultStays("wrong automata", x);
        Check.due("second automaton(6, 1)", 1, () -> x.automaton(6, 1));
        resultGoes("automaton", x);
        Check.due("third automaton(1, 1)", 2, () -> x.automaton(1, 1));
        Check.due("fourth automaton(6, 0)", 3, () -> x.automaton(6, 0));
        Check.dueDeed("tell(3, 5, 0, true)", "done", () -> x.tell(3, 5, 0, YES));
        x.tell(1, 0, 0, YES);
        Check.due("make() with an automaton without an initial state", -2, x::make);
        x.tell(2, 0, 0, YES);
        Check.due("make() of four", 0, x::make);
        Check.due("fifth automaton(1, 0)", Check.STATE, () -> x.automaton(1, 0));
        Check.due("fifth automaton(7, 0)", Check.ARGUMENT, () -> x.automaton(7, 0));
        Check.due("fifth automaton(1, 2)", Check.ARGUMENT, () -> x.automaton(1, 2));
        Check.due("many(0) after a fifth automaton", 1, () -> x.many(0));
    }

    private static void promise3() {
        SafeControl x = made();
        Check.due("event(-1, true)", Check.ARGUMENT, () -> x.event(-1, YES));
        Check.due("event(12, true)", Check.ARGUMENT, () -> x.event(12, YES));
        Check.due("event(0, true) again", 0, () -> x.event(0, YES));
        Check.due("event(0, false) otherwise", Check.STATE, () -> x.event(0, NO));
        resultStays("events that change nothing", x);
        Check.due("event(0, true) after it was declared otherwise", 0, () -> x.event(0, YES));
        Check.due("event(11, false)", 1, () -> x.event(11, NO));
        resultGoes("event", x);
        Check.due("event(11, false) again", 0, () -> x.event(11, NO));
        Check.due("event(11, true) otherwise", Check.STATE, () -> x.event(11, YES));
        Check.due("make() after events", 1, x::make);
    }

    private static void promise4() {
        SafeControl x = withEvents(2, 0);
        add(x, 3, 0, 0b111);
        add(x, 2, 1, 0b11);
        x.make();
        int[][] wrong = {{-1, 0, 0, 0}, {2, 0, 0, 0}, {0, -1, 0, 0}, {0, 3, 0, 0}, {0, 0, 0, -1}, {0, 0, 0, 3},
                {0, 0, -1, 0}, {0, 0, 12, 0}, {1, 2, 0, 0}, {1, 0, 0, 2}, {0, 3, 5, 0}, {4, 0, 5, 0}};
        for (int[] w : wrong) {
            Check.dueDeed("edge(" + w[0] + ", " + w[1] + ", " + w[2] + ", " + w[3] + ")", Check.ARGUMENT,
                    () -> x.edge(w[0], w[1], w[2], w[3]));
        }
        Check.dueDeed("edge with an event that is not declared", Check.STATE, () -> x.edge(0, 0, 2, 0));
        resultStays("wrong edges", x);
        Check.dueDeed("edge(0, 0, 0, 1)", "done", () -> x.edge(0, 0, 0, 1));
        resultGoes("edge", x);
        Check.due("make() with an edge", 2, x::make);
        Check.dueDeed("edge(0, 0, 0, 1) again", Check.STATE, () -> x.edge(0, 0, 0, 1));
        Check.dueDeed("edge(0, 0, 0, 2)", Check.STATE, () -> x.edge(0, 0, 0, 2));
        Check.due("leads(1, 0) after refused edges", 2, () -> x.leads(1, 0));
        Check.dueDeed("edge(0, 0, 1, 2)", "done", () -> x.edge(0, 0, 1, 2));
        Check.dueDeed("edge(0, 1, 0, 1)", "done", () -> x.edge(0, 1, 0, 1));
        Check.dueDeed("edge(1, 1, 0, 0)", "done", () -> x.edge(1, 1, 0, 0));
        Check.due("make() with a rule that has event 0 elsewhere", 2, x::make);
        Check.due("says(1, 0) where the rule forbids it", 1, () -> x.says(1, 0));
        Check.due("part(2, 0)", 2, () -> x.part(2, 0));
    }

    private static void promise5() {
        SafeControl x = made();
        int[][] wrong = {{-1, 0, 0}, {1, 0, 0}, {0, -1, 0}, {0, 1, 0}, {0, 0, -1}, {0, 0, 3}};
        for (int[] w : wrong) {
            Check.dueDeed("tell(" + w[0] + ", " + w[1] + ", " + w[2] + ", true)", Check.ARGUMENT,
                    () -> x.tell(w[0], w[1], w[2], YES));
        }
        resultStays("wrong tells", x);
        x.tell(0, 0, 1, YES);
        resultGoes("a tell that changes nothing", x);

        SafeControl y = withEvents(1, 0);
        add(y, 3, 0, 0b100);
        y.tell(0, 1, 0, NO);
        Check.due("make() when another state is no more initial", 0, y::make);
        Check.due("why() of an unmarked state", 0, y::why);
        y.tell(0, 2, 0, YES);
        Check.due("make() from the new initial state", 1, y::make);
        Check.due("part(1, 0) from the new initial state", 2, () -> y.part(1, 0));
        y.tell(0, 2, 2, YES);
        Check.due("make() from a forbidden state", 0, y::make);
        y.tell(0, 2, 2, NO);
        Check.due("make() when it is forbidden no more", 1, y::make);
        y.tell(0, 1, 1, NO);
        Check.due("make() when another state is marked no more", 1, y::make);
        y.tell(0, 2, 1, NO);
        Check.due("make() when it is marked no more", 0, y::make);
        y.tell(0, 0, 0, NO);
        Check.due("make() when the former initial state is it no more", 0, y::make);
        y.tell(0, 2, 0, NO);
        Check.due("make() when it is initial no more", -2, y::make);
        resultGoes("a make that gives no result", y);
    }

    private static void promise6() {
        SafeControl x = press();
        x.make();
        x.clear();
        resultGoes("clear", x);
        Check.due("make() after clear", -2, x::make);
        Check.dueDeed("tell(0, 0, 0, true) after clear", Check.ARGUMENT, () -> x.tell(0, 0, 0, YES));
        Check.due("automaton(4, 0) after clear", 0, () -> x.automaton(4, 0));
        Check.due("make() without an initial state after clear", -2, x::make);
        Check.dueDeed("edge(0, 0, 0, 1) after clear", Check.STATE, () -> x.edge(0, 0, 0, 1));
        Check.due("event(0, false) after clear", 1, () -> x.event(0, NO));
        Check.due("event(1, true) after clear", 1, () -> x.event(1, YES));
        x.tell(0, 0, 0, YES);
        Check.due("make() without marks after clear", 0, x::make);
        Check.due("many(0) without edges after clear", 1, () -> x.many(0));
        x.tell(0, 2, 0, YES);
        x.tell(0, 2, 1, YES);
        Check.due("make() without forbidden states after clear", 1, x::make);
        x.edge(0, 0, 1, 2);
        Check.due("make() with an edge elsewhere after clear", 1, x::make);
        Check.due("says(1, 1) after clear", 2, () -> x.says(1, 1));
        Check.due("allowed() after clear", 0, x::allowed);
        promise6Leftovers();
    }

    /** What comes after a clear has nothing of what was there before. */
    private static void promise6Leftovers() {
        SafeControl x = press();
        x.make();
        x.clear();
        Check.due("event(0, false) that was declared otherwise before clear", 1, () -> x.event(0, NO));
        Check.due("event(0, true) after it", Check.STATE, () -> x.event(0, YES));
        x.event(2, YES);
        add(x, 4, 0, 0b1111);
        add(x, 2, 0, 0b11);
        x.edge(1, 0, 0, 1);
        Check.due("make() with an event of the second plant alone", 2, x::make);
        x.edge(0, 1, 2, 1);
        x.make();
        Check.due("says(1, 2) where there was an edge before clear", 2, () -> x.says(1, 2));

        SafeControl y = withEvents(2, 0);
        add(y, 2, 0, 0b11);
        y.edge(0, 0, 0, 1);
        y.edge(0, 1, 1, 0);
        Check.due("make() of a ring", 2, y::make);
        y.clear();
        y.event(0, YES);
        add(y, 2, 0, 0b01);
        y.edge(0, 0, 0, 1);
        Check.due("make() of half the ring after clear", 1, y::make);
        Check.due("many(1) of half the ring after clear", 1, () -> y.many(1));
    }

    private static void promise7Refusals() {
        SafeControl x = withEvents(1, 0);
        add(x, 1, 1, 1);
        Check.due("make() of rules alone", -2, x::make);
        x.automaton(2, 0);
        Check.due("make() of a plant without an initial state", -2, x::make);
        x.tell(1, 1, 0, YES);
        x.tell(1, 1, 1, YES);
        Check.due("make() of a rule and a plant", 1, x::make);
        x.tell(0, 0, 0, NO);
        Check.due("make() of a rule without an initial state", -2, x::make);
    }

    /** Lines of 5, 5, 4 and 2 states reach 200 product states; event 11 leads from the last one to one more. */
    private static SafeControl twoHundred() {
        SafeControl x = withEvents(12, 0);
        int[] states = {5, 5, 4, 3};
        int[] last = {4, 4, 3, 1};
        for (int i = 0; i < 4; i++) {
            add(x, states[i], 0, 0b111111);
            line(x, i, last[i] + 1, i);
        }
        return x;
    }

    private static void promise7Limit() {
        SafeControl x = twoHundred();
        Check.due("make() of 200 product states", 200, x::make);
        Check.due("many(0) of 200", 200, () -> x.many(0));
        Check.due("many(1) of 200", 200, () -> x.many(1));
        Check.due("part(200, 0)", 4, () -> x.part(200, 0));
        Check.due("part(200, 3)", 1, () -> x.part(200, 3));
        Check.due("says(200, 0)", 2, () -> x.says(200, 0));
        Check.due("says(201, 0)", Check.ARGUMENT, () -> x.says(201, 0));
        Check.due("why() of 200", -1, x::why);
        x.edge(0, 4, 11, 4);
        x.edge(1, 4, 11, 4);
        x.edge(2, 3, 11, 3);
        x.edge(3, 1, 11, 2);
        Check.due("make() of 201 product states", -1, x::make);
        resultGoes("a make of too many", x);
        x.tell(0, 0, 2, YES);
        Check.due("make() of 201, the first of them forbidden", -1, x::make);
        x.tell(0, 1, 0, YES);
        Check.due("make() of fewer after too many", 161, x::make);
        Check.due("many(0) of fewer", 161, () -> x.many(0));
    }

    private static void promise7Good() {
        SafeControl x = press();
        Check.due("make() of the press", 2, x::make);
        Check.due("many(1) of the press", 2, () -> x.many(1));

        SafeControl f = factory();
        Check.due("make() of the factory", 6, f::make);
        Check.due("many(0) of the factory", 8, () -> f.many(0));
        Check.due("many(1) of the factory", 6, () -> f.many(1));
        Check.due("says(1, 0) of the factory", 0, () -> f.says(1, 0));
        Check.due("says(1, 2) of the factory, the buffer is empty", 1, () -> f.says(1, 2));
        Check.due("says(3, 0) of the factory, the buffer is full", 1, () -> f.says(3, 0));

        // A rule may not forbid event 0 in 1, so 1 and what must lead there are lost.
        SafeControl r = withEvents(2, 0b01);
        add(r, 3, 0, 0b111);
        r.edge(0, 0, 1, 1);
        r.edge(0, 1, 0, 2);
        add(r, 2, 1, 0b11);
        r.edge(1, 0, 1, 1);
        r.edge(1, 0, 0, 0);
        Check.due("make() with a rule that would have to forbid what can't be", 1, r::make);
        Check.due("many(0) there", 2, () -> r.many(0));
        Check.due("says(1, 1) there", 1, () -> r.says(1, 1));

        // An event that no plant has is done by nobody, though a rule has it and it can't be forbidden.
        SafeControl n = withEvents(1, 0b1);
        add(n, 1, 0, 1);
        add(n, 2, 1, 0b11);
        n.edge(1, 0, 0, 1);
        Check.due("make() with an event of a rule alone", 1, n::make);
        Check.due("many(0) with an event of a rule alone", 1, () -> n.many(0));
        Check.due("says(1, 0) with an event of a rule alone", 2, () -> n.says(1, 0));
        promise7Rules();
        promise7Rounds();
    }

    private static void promise7Rules() {
        // The rule has the lower number, and forbids event 0 from its second state on.
        SafeControl x = withEvents(1, 0);
        add(x, 2, 1, 0b11);
        add(x, 3, 0, 0b111);
        x.edge(0, 0, 0, 1);
        line(x, 1, 3, 0);
        Check.due("make() with a rule before the plant", 2, x::make);
        Check.due("says(2, 0) with a rule before the plant", 1, () -> x.says(2, 0));

        // It would have to forbid event 0 in the first state.
        SafeControl f = withEvents(1, 0b1);
        add(f, 1, 0, 1);
        f.edge(0, 0, 0, 0);
        add(f, 2, 1, 0b11);
        f.edge(1, 1, 0, 1);
        Check.due("make() where the first is lost by a rule", 0, f::make);
        Check.due("why() where the first is lost by a rule", 0, f::why);

        // Event 2 can't be forbidden: it leads from 2, found last, to 1, where the rule stops it.
        SafeControl o = withEvents(3, 0b100);
        add(o, 3, 0, 0b111);
        o.edge(0, 0, 0, 1);
        o.edge(0, 0, 1, 2);
        o.edge(0, 1, 2, 1);
        o.edge(0, 2, 2, 1);
        add(o, 3, 1, 0b111);
        o.edge(1, 0, 1, 1);
        o.edge(1, 1, 2, 2);
        o.edge(1, 0, 0, 2);
        Check.due("make() where a later state must lead to a lost one", 1, o::make);
        Check.due("many(0) where a later state must lead to a lost one", 3, () -> o.many(0));
        Check.due("many(1) where a later state must lead to a lost one", 1, () -> o.many(1));

        SafeControl i = withEvents(1, 0);
        add(i, 2, 0, 0b11);
        i.edge(0, 1, 0, 0);
        Check.due("make() from 0", 1, i::make);
        i.tell(0, 1, 0, YES);
        Check.due("make() from 1 to 0", 2, i::make);
        Check.due("part(2, 0) from 1 to 0", 0, () -> i.part(2, 0));
    }

    /** What is lost in one round makes more lost in the next, and what lies behind lost states stays good. */
    private static void promise7Rounds() {
        SafeControl x = withEvents(3, 0b010);
        add(x, 6, 0, 0b001001);
        x.edge(0, 0, 0, 1);
        x.edge(0, 1, 1, 2);
        x.edge(0, 1, 0, 3);
        x.edge(0, 2, 2, 5);
        x.edge(0, 3, 0, 4);
        x.edge(0, 4, 0, 3);
        Check.due("make() where a dead end takes what must lead to it", 1, x::make);
        Check.due("many(0) of rounds", 6, () -> x.many(0));
        Check.due("many(1) of rounds: 0, 3 and 4", 3, () -> x.many(1));
        Check.due("says(1, 0) of rounds", 1, () -> x.says(1, 0));
        x.tell(0, 0, 1, NO);
        Check.due("make() where the first is lost at last", 0, x::make);
        Check.due("many(1) where the first is lost at last", 2, () -> x.many(1));
        Check.due("why() where the first is lost at last", 0, x::why);
        noSupervisor("where the first is lost at last", x);
        x.tell(0, 2, 1, YES);
        x.tell(0, 3, 1, NO);
        x.tell(0, 5, 2, YES);
        Check.due("make() where a forbidden state is avoided", 3, x::make);
        Check.due("many(1) where a forbidden state is avoided", 3, () -> x.many(1));
        Check.due("says(3, 2) where a forbidden state is avoided", 1, () -> x.says(3, 2));
        x.act(0);
        Check.due("make() again", 3, x::make);
        Check.due("here() after make() again", 1, x::here);
    }

    private static void promise7Order() {
        SafeControl x = withEvents(4, 0);
        add(x, 6, 0, 0b111111);
        x.edge(0, 0, 3, 1);
        x.edge(0, 0, 1, 4);
        x.edge(0, 0, 2, 0);
        x.edge(0, 1, 0, 2);
        x.edge(0, 4, 2, 5);
        x.edge(0, 4, 3, 3);
        x.edge(0, 5, 0, 1);
        x.make();
        int[] parts = {0, 4, 1, 5, 3, 2};
        for (int i = 0; i < parts.length; i++) {
            int state = i + 1;
            Check.due("part(" + state + ", 0) by the order of the events", parts[i], () -> x.part(state, 0));
        }
        Check.due("leads(4, 0) back to one found before", 3, () -> x.leads(4, 0));
        Check.due("leads(1, 2) to itself", 1, () -> x.leads(1, 2));
    }

    private static void promises8And9() {
        SafeControl x = press();
        x.make();
        int[][] rows = {{1, 0, 1, 0}, {1, 1, 2, 0}, {1, 2, 0, 2}, {1, 3, 2, 0}, {1, 11, 2, 0}, {2, 0, 2, 0},
                {2, 2, 2, 0}, {2, 3, 0, 1}};
        for (int[] row : rows) {
            String of = "(" + row[0] + ", " + row[1] + ")";
            Check.due("says" + of, row[2], () -> x.says(row[0], row[1]));
            Check.due("leads" + of, row[3], () -> x.leads(row[0], row[1]));
        }
        int[][] wrong = {{0, 0}, {3, 0}, {-1, 0}, {1, -1}, {1, 12}, {Integer.MAX_VALUE, 0}, {1, Integer.MIN_VALUE}};
        for (int[] w : wrong) {
            String of = "(" + w[0] + ", " + w[1] + ")";
            Check.due("says" + of, Check.ARGUMENT, () -> x.says(w[0], w[1]));
            Check.due("leads" + of, Check.ARGUMENT, () -> x.leads(w[0], w[1]));
        }
        noSupervisor("where make() answered 0", madeWithout());
    }

    private static void promise10() {
        SafeControl x = factory();
        x.make();
        int[][] parts = {{0, 0, 0}, {1, 0, 0}, {0, 0, 1}, {0, 1, 0}, {1, 1, 0}, {0, 1, 1}};
        for (int s = 1; s <= 6; s++) {
            for (int i = 0; i < 3; i++) {
                int state = s;
                int automaton = i;
                Check.due("part(" + s + ", " + i + ")", parts[s - 1][i], () -> x.part(state, automaton));
            }
        }
        for (int[] w : new int[][] {{0, 0}, {7, 0}, {1, -1}, {1, 3}, {-1, 9}}) {
            Check.due("part(" + w[0] + ", " + w[1] + ")", Check.ARGUMENT, () -> x.part(w[0], w[1]));
        }
    }

    private static void promise11() {
        SafeControl x = new SafeControl();
        Check.due("many(2) without a result", Check.ARGUMENT, () -> x.many(2));
        Check.due("many(-1) without a result", Check.ARGUMENT, () -> x.many(-1));
        Check.due("many(1) without a result", Check.STATE, () -> x.many(1));
        SafeControl p = press();
        p.make();
        Check.due("many(0)", 4, () -> p.many(0));
        Check.due("many(1)", 2, () -> p.many(1));
        Check.due("many(2)", Check.ARGUMENT, () -> p.many(2));
        SafeControl m = madeWithout();
        Check.due("many(0) without a supervisor", 1, () -> m.many(0));
        Check.due("many(1) without a supervisor", 0, () -> m.many(1));
    }

    private static void promises12And13() {
        SafeControl p = press();
        p.make();
        Check.due("why() of the press", 1, p::why);
        Check.due("whyEvent(0) of the press", 0, () -> p.whyEvent(0));
        Check.due("whyEvent(1) of the press", Check.INDEX, () -> p.whyEvent(1));
        Check.due("whyEvent(-1) of the press", Check.INDEX, () -> p.whyEvent(-1));
        SafeControl m = made();
        Check.due("why() where none is lost", -1, m::why);
        Check.due("whyEvent(0) where none is lost", Check.INDEX, () -> m.whyEvent(0));
        Check.due("whyEvent(-1) where none is lost", Check.INDEX, () -> m.whyEvent(-1));
        SafeControl w = madeWithout();
        Check.due("why() where the first is lost", 0, w::why);
        Check.due("whyEvent(0) where the first is lost", Check.INDEX, () -> w.whyEvent(0));

        // Words of three events to lost states: 1 7 2, 1 7 5, 1 8 0 and 4 0 0.
        SafeControl x = withEvents(9, 0);
        add(x, 6, 0, 0b011111);
        add(x, 4, 0, 0b1111);
        x.tell(0, 5, 2, YES);
        x.edge(0, 0, 4, 1);
        x.edge(0, 0, 1, 2);
        x.edge(0, 1, 0, 3);
        x.edge(0, 3, 0, 5);
        x.edge(0, 2, 8, 3);
        x.edge(0, 2, 7, 4);
        x.edge(0, 4, 5, 5);
        x.edge(0, 4, 2, 5);
        x.edge(1, 0, 6, 0);
        Check.due("make() of words", 5, x::make);
        Check.due("why() of words", 3, x::why);
        Check.due("whyEvent(0) of words", 1, () -> x.whyEvent(0));
        Check.due("whyEvent(1) of words", 7, () -> x.whyEvent(1));
        Check.due("whyEvent(2) of words", 2, () -> x.whyEvent(2));
        Check.due("whyEvent(3) of words", Check.INDEX, () -> x.whyEvent(3));
        x.edge(0, 0, 8, 5);
        x.make();
        Check.due("why() with a shorter word of a higher event", 1, x::why);
        Check.due("whyEvent(0) with a shorter word", 8, () -> x.whyEvent(0));
    }

    /** One plant that ends by event 0 or by event 1; rule 1 wants the first, rule 2 the second, rule 3 any. */
    private static SafeControl atOdds() {
        SafeControl x = withEvents(3, 0b100);
        add(x, 3, 0, 0b110);
        x.edge(0, 0, 0, 1);
        x.edge(0, 0, 1, 2);
        for (int rule = 1; rule <= 3; rule++) {
            add(x, 2, 1, 0b11);
        }
        x.edge(1, 0, 0, 1);
        x.edge(1, 1, 1, 1);
        x.edge(2, 0, 1, 1);
        x.edge(2, 1, 0, 1);
        return x;
    }

    private static void promise14() {
        SafeControl x = atOdds();
        Check.due("conflict(1, 2) of rules at odds", 1, () -> x.conflict(1, 2));
        Check.due("conflict(2, 1) of rules at odds", 1, () -> x.conflict(2, 1));
        Check.due("conflict(1, 3) of rules that agree", 0, () -> x.conflict(1, 3));
        Check.due("conflict(3, 2) of rules that agree", 0, () -> x.conflict(3, 2));
        Check.due("conflict(2, 2) of a rule with itself", 0, () -> x.conflict(2, 2));
        resultGoes("conflict alone", x);
        Check.due("make() of rules at odds", 0, x::make);

        SafeControl f = factory();
        f.automaton(1, 1);
        f.tell(3, 0, 0, YES);
        f.tell(3, 0, 1, YES);
        f.edge(3, 0, 0, 0);
        Check.due("make() before conflict", 6, f::make);
        f.act(0);
        f.act(1);
        Check.due("conflict(2, 3)", 0, () -> f.conflict(2, 3));
        Check.due("conflict(3, 3)", 0, () -> f.conflict(3, 3));
        Check.due("here() after conflict", 3, f::here);
        Check.due("home() after conflict", 2, f::home);
        Check.due("many(0) after conflict", 8, () -> f.many(0));
        Check.due("many(1) after conflict", 6, () -> f.many(1));
        Check.due("why() after conflict", 3, f::why);
        Check.due("leads(3, 2) after conflict", 4, () -> f.leads(3, 2));
        Check.due("part(6, 1) after conflict", 1, () -> f.part(6, 1));

        // Behind event 2 both go on forever without a mark, though from the first pair one is reached.
        SafeControl l = withEvents(4, 0);
        add(l, 4, 0, 0b0010);
        l.edge(0, 0, 0, 1);
        l.edge(0, 0, 2, 2);
        l.edge(0, 2, 3, 3);
        l.edge(0, 3, 3, 2);
        l.edge(0, 2, 0, 1);
        l.edge(0, 2, 1, 1);
        for (int rule = 1; rule <= 2; rule++) {
            add(l, 2, 1, 0b11);
            l.edge(rule, 0, 0, 0);
            l.edge(rule, 0, 2, 1);
            l.edge(rule, 0, 1, 0);
        }
        l.edge(1, 1, 0, 1);
        l.edge(2, 1, 1, 1);
        Check.due("conflict(1, 2) that begins later", 1, () -> l.conflict(1, 2));
        l.edge(2, 1, 0, 1);
        Check.due("conflict(1, 2) no more", 0, () -> l.conflict(1, 2));
        promise14Marks();
    }

    private static void promise14Marks() {
        SafeControl one = withEvents(1, 0);
        add(one, 1, 0, 1);
        add(one, 1, 1, 1);
        Check.due("conflict(1, 1) of supervisors of one state", 0, () -> one.conflict(1, 1));

        // Event 0 takes each rule from one of its states to the other; they mark by turns.
        SafeControl x = withEvents(1, 0);
        add(x, 1, 0, 1);
        everywhere(x, 0, 1, 0);
        for (int rule = 1; rule <= 2; rule++) {
            add(x, 2, 1, rule);
            x.edge(rule, 0, 0, 1);
            x.edge(rule, 1, 0, 0);
        }
        Check.due("conflict(1, 2) of rules that mark by turns", 1, () -> x.conflict(1, 2));
        Check.due("conflict(2, 1) of rules that mark by turns", 1, () -> x.conflict(2, 1));
        x.tell(2, 0, 1, YES);
        Check.due("conflict(1, 2) of rules that mark together at times", 0, () -> x.conflict(1, 2));

        // The supervisors leave out the lost states of the press, which is at home in 3 now.
        SafeControl p = press();
        p.tell(0, 0, 1, NO);
        p.tell(0, 3, 1, YES);
        add(p, 1, 1, 1);
        add(p, 1, 1, 1);
        Check.due("conflict(1, 2) where states are lost", 0, () -> p.conflict(1, 2));
    }

    private static void promise14Refusals() {
        SafeControl x = atOdds();
        for (int[] w : new int[][] {{0, 1}, {1, 0}, {-1, 1}, {1, 4}, {4, 4}, {0, 0}}) {
            Check.due("conflict(" + w[0] + ", " + w[1] + ")", Check.ARGUMENT, () -> x.conflict(w[0], w[1]));
        }
        x.tell(1, 0, 2, YES);
        Check.due("conflict(1, 3) where the first is not there", -1, () -> x.conflict(1, 3));
        Check.due("conflict(3, 1) where the second is not there", -1, () -> x.conflict(3, 1));
        Check.due("conflict(2, 3) where both are there", 0, () -> x.conflict(2, 3));
        x.tell(1, 0, 0, NO);
        Check.due("conflict(1, 3) where a has no initial state", -1, () -> x.conflict(1, 3));
        Check.due("conflict(3, 1) where b has no initial state", -1, () -> x.conflict(3, 1));
        Check.due("conflict(2, 3) where another rule has no initial state", 0, () -> x.conflict(2, 3));
        x.tell(0, 0, 0, NO);
        Check.due("conflict(2, 3) where the plant has no initial state", -1, () -> x.conflict(2, 3));
        SafeControl r = new SafeControl();
        add(r, 1, 1, 1);
        Check.due("conflict(0, 0) without a plant", -1, () -> r.conflict(0, 0));
    }

    /** Two lines of 5 states, and two rules that count events 2 and 3: 200 pairs at the most. */
    private static SafeControl twoHundredPairs() {
        SafeControl x = withEvents(5, 0);
        add(x, 5, 0, 0b11111);
        add(x, 5, 0, 0b11111);
        add(x, 4, 1, 0b1111);
        add(x, 3, 1, 0b111);
        line(x, 0, 5, 0);
        line(x, 1, 5, 1);
        line(x, 2, 4, 2);
        line(x, 3, 2, 3);
        everywhere(x, 0, 5, 2);
        everywhere(x, 0, 5, 3);
        return x;
    }

    private static void promise14Limits() {
        SafeControl x = twoHundredPairs();
        Check.due("conflict(2, 3) of 200 pairs", 0, () -> x.conflict(2, 3));
        Check.due("make() of 200", 200, x::make);
        x.edge(0, 4, 4, 4);
        x.edge(1, 4, 4, 4);
        x.edge(2, 3, 4, 3);
        x.edge(3, 1, 4, 2);
        Check.due("conflict(2, 3) of 201 pairs", -1, () -> x.conflict(2, 3));
        Check.due("conflict(2, 2) of 100 pairs", 0, () -> x.conflict(2, 2));

        SafeControl y = withEvents(6, 0);
        for (int i = 0; i < 2; i++) {
            add(y, 6, 0, 0b111111);
            line(y, i, 6, i);
        }
        everywhere(y, 0, 6, 2);
        everywhere(y, 0, 6, 3);
        add(y, 6, 1, 0b111111);
        line(y, 2, 6, 2);
        add(y, 1, 1, 1);
        Check.due("conflict(2, 3) of 216 product states", -1, () -> y.conflict(2, 3));
        Check.due("conflict(3, 2) of 216 product states", -1, () -> y.conflict(3, 2));
        Check.due("conflict(3, 3) of 36 product states", 0, () -> y.conflict(3, 3));
    }

    private static void promises15To17() {
        SafeControl x = press();
        x.make();
        Check.due("here() at first", 1, x::here);
        Check.due("act(1) that the plants may not do", 0, () -> x.act(1));
        Check.due("act(9) that is not declared", 0, () -> x.act(9));
        Check.due("act(0) that is disabled", 1, () -> x.act(0));
        Check.due("here() after what was not done", 1, x::here);
        Check.due("act(2)", 2, () -> x.act(2));
        Check.due("here() after act(2)", 2, x::here);
        Check.due("act(2) again", 0, () -> x.act(2));
        Check.due("act(-1)", Check.ARGUMENT, () -> x.act(-1));
        Check.due("act(12)", Check.ARGUMENT, () -> x.act(12));
        Check.due("here() after wrong acts", 2, x::here);
        Check.due("act(3)", 2, () -> x.act(3));
        Check.due("here() after act(3)", 1, x::here);
        x.act(2);
        Check.dueDeed("reset()", "done", x::reset);
        Check.due("here() after reset()", 1, x::here);
        Check.due("act(2) after reset()", 2, () -> x.act(2));
        Check.due("event(0, true) that changes nothing", 0, () -> x.event(0, YES));
        Check.due("here() after it", 2, x::here);
        Check.due("make() again", 2, x::make);
        Check.due("here() after make() again", 1, x::here);
    }

    private static void promise18() {
        SafeControl x = factory();
        x.make();
        Check.due("allowed() at first", 0b0001, x::allowed);
        x.act(0);
        Check.due("allowed() while machine 0 works", 0b0010, x::allowed);
        x.act(1);
        Check.due("allowed() while the buffer is full", 0b0100, x::allowed);
        x.act(2);
        Check.due("allowed() while machine 1 works", 0b1001, x::allowed);
        SafeControl y = withEvents(12, 0);
        add(y, 1, 0, 1);
        everywhere(y, 0, 1, 11);
        everywhere(y, 0, 1, 0);
        y.make();
        Check.due("allowed() of events 0 and 11", 0b100000000001, y::allowed);
    }

    private static void promise19() {
        SafeControl x = factory();
        x.make();
        int[] acts = {0, 1, 2, 0, 1};
        int[] homes = {0, 3, 2, 1, 4, 3};
        Check.due("home() at first", homes[0], x::home);
        for (int i = 0; i < acts.length; i++) {
            x.act(acts[i]);
            Check.due("home() after " + (i + 1) + " acts", homes[i + 1], x::home);
        }

        // The short way from 1 to the mark goes through a forbidden state, the long one does not.
        SafeControl y = withEvents(3, 0);
        add(y, 6, 0, 0b010000);
        y.tell(0, 5, 2, YES);
        y.edge(0, 0, 0, 5);
        y.edge(0, 5, 0, 4);
        y.edge(0, 0, 1, 1);
        y.edge(0, 1, 1, 2);
        y.edge(0, 2, 1, 4);
        y.edge(0, 4, 2, 0);
        y.make();
        Check.due("home() the long way", 3, y::home);
        y.tell(0, 5, 2, NO);
        y.make();
        Check.due("home() the short way", 2, y::home);
    }

    private PromisesTest() {
    }
}
