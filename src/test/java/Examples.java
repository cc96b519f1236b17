/** Plants and rules to ask about. */
final class Examples {
    /** No number of an automaton, a state, an event, a kind or a question about counts. */
    static final int[] FAR = {-1, Integer.MIN_VALUE, Integer.MAX_VALUE, Integer.MIN_VALUE + 1, 1 << 16, 64};

    /**
     * From 0 event 0 goes to 1, whence event 1, which can't be forbidden, goes to the forbidden 2;
     * from 0 event 2 goes to 3, whence event 3, which can't be forbidden either, goes home.
     */
    static Asked press(String name) {
        Asked q = new Asked(name).events(4, 0b1010).add(0, 4, Asked.PLANT, 0b0001);
        q.tell(0, 2, Asked.FORBIDDEN, true);
        q.edge(0, 0, 0, 1);
        q.edge(0, 1, 1, 2);
        q.edge(0, 0, 2, 3);
        q.edge(0, 3, 3, 0);
        return q;
    }

    /** The press with its supervisor of two states, in the second of which it is. */
    static Asked pressed(String name) {
        Asked q = press(name);
        q.due(2).make();
        q.due(2).act(2);
        return q;
    }

    /** All of the result of the press that was made is there, and it is where it was. */
    static void pressStays(Asked q) {
        q.due(2).here();
        q.due(0b1000).allowed();
        q.due(1).home();
        q.due(4).many(0);
        q.due(2).many(1);
        q.due(1).why();
        q.due(0).whyEvent(0);
        q.due(1).says(1, 0);
        q.due(2).leads(1, 2);
        q.due(3).part(2, 0);
    }

    /** One marked state with its supervisor, and event 0 declared. */
    static Asked alone(String name) {
        Asked q = new Asked(name).events(1, 0).add(0, 1, Asked.PLANT, 1);
        q.due(1).make();
        return q;
    }

    /** From the first product state nothing marked can be reached: a result without a supervisor. */
    static Asked lostAtOnce(String name) {
        Asked q = new Asked(name).events(2, 0).add(0, 2, Asked.PLANT, 0);
        q.edge(0, 0, 0, 1);
        q.due(0).make();
        return q;
    }

    /** Three lines of plants with 5, 5 and 4 states, and one of 2 with room for a third: 200 product states. */
    static Asked grid(String name, int lastKind) {
        Asked q = new Asked(name).events(5, 0);
        q.add(0, 5, Asked.PLANT, 0b11111).add(1, 5, Asked.PLANT, 0b11111).add(2, 4, Asked.PLANT, 0b1111);
        q.add(3, 3, lastKind, 0b111);
        q.line(0, 0, 4).line(1, 1, 4).line(2, 2, 3).line(3, 3, 1);
        if (lastKind == Asked.RULE) {
            q.loops(0, 3, 4);
        }
        return q;
    }

    /** Event 4 leads from the last product state of the grid to one more. */
    static void oneMore(Asked q) {
        q.edge(0, 4, 4, 4);
        q.edge(1, 4, 4, 4);
        q.edge(2, 3, 4, 3);
        q.edge(3, 1, 4, 2);
    }

    /** Plants of 5, 5, 4 and 2 states that count from 0 to 199: events 1, 2 and 3 carry. */
    static Asked counter(String name) {
        Asked q = new Asked(name).events(5, 0);
        int[] states = {5, 5, 4, 2};
        for (int i = 0; i < 4; i++) {
            q.due(i).automaton(states[i], Asked.PLANT);
            q.tell(i, 0, Asked.INITIAL, true);
            q.line(i, i, states[i] - 1);
            for (int carry = i + 1; carry < 4; carry++) {
                q.edge(i, states[i] - 1, carry, 0);
            }
        }
        return q;
    }

    private Examples() {
    }
}
