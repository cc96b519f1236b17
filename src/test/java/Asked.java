/**
 * An object whose answers are set beside those that are due: the answer told by due or done counts for the
 * next call; a call before which nothing was told may answer anything, but must not throw.
 */
final class Asked {
    static final int PLANT = 0;
    static final int RULE = 1;
    static final int INITIAL = 0;
    static final int MARKED = 1;
    static final int FORBIDDEN = 2;
    static final int EVENTS = 12;
    /** Beyond that many calls nothing is promised, so no test may lean on them. */
    static final int PROMISED_CALLS = 512;

    private final SafeControl x = new SafeControl();
    private final String name;
    private String want;
    private int calls;

    Asked(String theName) {
        name = theName;
    }

    Asked due(int answer) {
        want = String.valueOf(answer);
        return this;
    }

    /** The next call throws this exception. */
    Asked due(String exception) {
        want = exception;
        return this;
    }

    Asked done() {
        want = "done";
        return this;
    }

    int calls() {
        return calls;
    }

    private void ask(String what, Check.Call call) {
        String got = Check.outcome(call);
        calls++;
        if (calls > PROMISED_CALLS) {
            Check.due(name + ": number of calls", "at most " + PROMISED_CALLS, String.valueOf(calls));
        }
        if (want != null) {
            Check.due(name + ": " + what, want, got);
        } else if (got.startsWith("throws.")) {
            Check.due(name + ": " + what, "any answer", got);
        }
        want = null;
    }

    private void askDeed(String what, Check.Deed deed) {
        ask(what, () -> {
            deed.go();
            return "done";
        });
    }

    // ---- the calls of the face

    void automaton(int states, int kind) {
        ask("automaton(" + states + ", " + kind + ")", () -> x.automaton(states, kind));
    }

    void event(int event, boolean controllable) {
        ask("event(" + event + ", " + controllable + ")", () -> x.event(event, controllable));
    }

    void edge(int automaton, int from, int event, int to) {
        askDeed("edge(" + automaton + ", " + from + ", " + event + ", " + to + ")",
                () -> x.edge(automaton, from, event, to));
    }

    void tell(int automaton, int state, int what, boolean on) {
        askDeed("tell(" + automaton + ", " + state + ", " + what + ", " + on + ")",
                () -> x.tell(automaton, state, what, on));
    }

    void clear() {
        askDeed("clear()", x::clear);
    }

    void make() {
        ask("make()", x::make);
    }

    void says(int state, int event) {
        ask("says(" + state + ", " + event + ")", () -> x.says(state, event));
    }

    void leads(int state, int event) {
        ask("leads(" + state + ", " + event + ")", () -> x.leads(state, event));
    }

    void part(int state, int automaton) {
        ask("part(" + state + ", " + automaton + ")", () -> x.part(state, automaton));
    }

    void many(int what) {
        ask("many(" + what + ")", () -> x.many(what));
    }

    void why() {
        ask("why()", x::why);
    }

    void whyEvent(int i) {
        ask("whyEvent(" + i + ")", () -> x.whyEvent(i));
    }

    void conflict(int a, int b) {
        ask("conflict(" + a + ", " + b + ")", () -> x.conflict(a, b));
    }

    void act(int event) {
        ask("act(" + event + ")", () -> x.act(event));
    }

    void reset() {
        askDeed("reset()", x::reset);
    }

    void here() {
        ask("here()", x::here);
    }

    void allowed() {
        ask("allowed()", x::allowed);
    }

    void home() {
        ask("home()", x::home);
    }

    // ---- several calls at once

    /** Declares events 0, 1, .. of which some, told as bits, can't be forbidden. */
    Asked events(int declared, int uncontrollableBits) {
        for (int e = 0; e < declared; e++) {
            event(e, (uncontrollableBits >> e & 1) == 0);
        }
        return this;
    }

    /** One more automaton, number told, with initial state 0 and marked states told as bits. */
    Asked add(int number, int states, int kind, int markedBits) {
        due(number).automaton(states, kind);
        tell(number, 0, INITIAL, true);
        for (int s = 0; s < states; s++) {
            if ((markedBits >> s & 1) == 1) {
                tell(number, s, MARKED, true);
            }
        }
        return this;
    }

    /** Edges from 0 to 1, from 1 to 2, .. up to the last state told. */
    Asked line(int automaton, int event, int last) {
        for (int s = 0; s < last; s++) {
            edge(automaton, s, event, s + 1);
        }
        return this;
    }

    /** An edge from each state, the last of which is told, to itself. */
    Asked loops(int automaton, int event, int last) {
        for (int s = 0; s <= last; s++) {
            edge(automaton, s, event, s);
        }
        return this;
    }

    /** There is no supervisor: every question about one, right or wrong, says so. */
    void hasNoSupervisor() {
        due(Check.STATE).says(1, 0);
        due(Check.STATE).says(0, 0);
        due(Check.STATE).says(1, 12);
        due(Check.STATE).leads(1, 0);
        due(Check.STATE).leads(0, 0);
        due(Check.STATE).leads(1, -1);
        due(Check.STATE).part(1, 0);
        due(Check.STATE).part(0, 0);
        due(Check.STATE).part(1, 4);
        due(Check.STATE).act(0);
        due(Check.STATE).act(-1);
        due(Check.STATE).act(12);
        due(Check.STATE).reset();
        due(Check.STATE).here();
        due(Check.STATE).allowed();
        due(Check.STATE).home();
    }

    void hasNoResult() {
        hasNoSupervisor();
        due(Check.STATE).many(0);
        due(Check.STATE).many(1);
        due(Check.STATE).why();
        due(Check.STATE).whyEvent(0);
        due(Check.STATE).whyEvent(-1);
    }
}
