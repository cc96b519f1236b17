/** Promises 8 to 13: each sentence that names a boundary case has a test of its own. */
public final class ResultBoundaryTest {
    private static final int PLANT = Asked.PLANT;
    private static final int RULE = Asked.RULE;
    private static final int INITIAL = Asked.INITIAL;
    private static final int MARKED = Asked.MARKED;
    private static final int FORBIDDEN = Asked.FORBIDDEN;

    public static void main(String[] args) {
        saysAnswers();
        leadsAnswers();
        saysAndLeadsRefusals();
        partAnswers();
        partRefusals();
        manyAnswers();
        manyRefusals();
        noneLost();
        firstLost();
        longestWord();
        shortestWords();
        severalWords();
        whyRefusals();
        Check.end();
    }

    /** Calls after which there is no supervisor, or no result either. */
    private static Asked[] withoutSupervisor() {
        Asked tooMany = Examples.grid("too many", PLANT);
        Examples.oneMore(tooMany);
        tooMany.due(-1).make();
        Asked notReady = Examples.pressed("not ready");
        notReady.tell(0, 0, INITIAL, false);
        notReady.due(-2).make();
        Asked cleared = Examples.pressed("cleared");
        cleared.clear();
        Asked changed = Examples.pressed("changed");
        changed.edge(0, 3, 0, 3);
        return new Asked[] {new Asked("new"), Examples.press("not made"), tooMany, notReady, cleared, changed};
    }

    // ---- promise 8

    /** Event 0 is allowed, 11 is disabled by the rule, and 1 is not done by the plants; 2 is not declared. */
    private static Asked verdicts() {
        Asked q = new Asked("verdicts");
        q.event(0, true);
        q.event(11, true);
        q.event(1, false);
        q.add(0, 2, PLANT, 0b11).add(1, 2, RULE, 0b11);
        q.edge(0, 0, 0, 1);
        q.edge(0, 0, 11, 1);
        q.edge(0, 1, 11, 0);
        q.edge(1, 1, 11, 0);
        q.edge(1, 0, 0, 1);
        q.due(2).make();
        return q;
    }

    private static void saysAnswers() {
        Check.sentence("Promise 8", "0 the event is allowed");
        Asked q = verdicts();
        q.due(0).says(1, 0);
        q.due(0).says(2, 11);

        Check.sentence("Promise 8", "1 disabled");
        q.due(1).says(1, 11);
        q = Examples.pressed("press");
        q.due(1).says(1, 0);

        Check.sentence("Promise 8", "2 the plants may not do it");
        q = verdicts();
        q.due(2).says(2, 0);
        q.due(2).says(1, 1);
        q.due(2).says(2, 1);

        Check.sentence("Promise 8", "2 for an event that no automaton has, declared or not");
        for (int e = 2; e <= 10; e++) {
            q.due(2).says(1, e);
            q.due(2).says(2, e);
        }
    }

    // ---- promise 9

    private static void leadsAnswers() {
        Check.sentence("Promise 9", "The state to which an allowed event leads");
        Asked q = verdicts();
        q.due(2).leads(1, 0);
        q.due(1).leads(2, 11);
        q = new Asked("itself").events(1, 0).add(0, 1, PLANT, 1).loops(0, 0, 0);
        q.due(1).make();
        q.due(1).leads(1, 0);
        q = Examples.grid("grid", PLANT);
        q.due(200).make();
        q.due(200).leads(199, 0);
        q.due(200).leads(198, 1);

        Check.sentence("Promise 9", "0 for others: disabled");
        q = verdicts();
        q.due(0).leads(1, 11);
        q = Examples.pressed("press");
        q.due(0).leads(1, 0);

        Check.sentence("Promise 9", "0 for others: the plants may not do it");
        q = verdicts();
        q.due(0).leads(2, 0);
        q.due(0).leads(1, 1);
        for (int e = 2; e <= 10; e++) {
            q.due(0).leads(1, e);
            q.due(0).leads(2, e);
        }
    }

    private static void saysAndLeadsRefusals() {
        Check.sentence("Promises 8 and 9", "IllegalStateException: there is no supervisor (no result)");
        for (Asked q : withoutSupervisor()) {
            q.hasNoSupervisor();
        }

        Check.sentence("Promises 8 and 9", "IllegalStateException: there is no supervisor (a result without one)");
        Examples.lostAtOnce("lost").hasNoSupervisor();

        Check.sentence("Promises 8 and 9", "IllegalArgumentException: there is no such state");
        Asked q = Examples.pressed("press");
        for (int state : new int[] {0, 3, 4, 200, 201}) {
            q.due(Check.ARGUMENT).says(state, 0);
            q.due(Check.ARGUMENT).leads(state, 0);
        }
        for (int far : Examples.FAR) {
            q.due(Check.ARGUMENT).says(far, 0);
            q.due(Check.ARGUMENT).leads(far, 0);
        }
        Examples.pressStays(q);
        q = Examples.grid("grid", PLANT);
        q.due(200).make();
        q.due(2).says(200, 0);
        q.due(0).leads(200, 0);
        q.due(Check.ARGUMENT).says(201, 0);
        q.due(Check.ARGUMENT).leads(201, 0);

        Check.sentence("Promises 8 and 9", "IllegalArgumentException: there is no such event");
        q = Examples.pressed("press");
        for (int event : new int[] {12, 32, 33}) {
            q.due(Check.ARGUMENT).says(1, event);
            q.due(Check.ARGUMENT).leads(1, event);
        }
        for (int far : Examples.FAR) {
            q.due(Check.ARGUMENT).says(2, far);
            q.due(Check.ARGUMENT).leads(2, far);
        }
        q.due(2).says(2, 11);
        q.due(0).leads(2, 11);
        Examples.pressStays(q);

        Check.sentence("Promises 8 and 9", "states that an earlier supervisor had are none of a smaller one");
        q.tell(0, 3, FORBIDDEN, true);
        q.due(1).make();
        q.due(Check.ARGUMENT).says(2, 3);
        q.due(Check.ARGUMENT).leads(2, 3);
        q.due(Check.ARGUMENT).part(2, 0);
        q.due(1).says(1, 2);
        q.due(0).leads(1, 2);
    }

    // ---- promise 10

    private static void partAnswers() {
        Check.sentence("Promise 10", "The state of an automaton in a state of the supervisor.");
        Asked q = new Asked("parts").events(1, 0);
        q.add(0, 6, PLANT, 0b111111).add(1, 6, RULE, 0b111111).add(2, 1, PLANT, 1).add(3, 6, PLANT, 0b111111);
        q.tell(1, 3, INITIAL, true);
        q.edge(0, 0, 0, 5);
        q.edge(3, 0, 0, 4);
        q.edge(3, 4, 0, 5);
        q.edge(0, 5, 0, 5);
        q.due(3).make();
        int[][] parts = {{0, 3, 0, 0}, {5, 3, 0, 4}, {5, 3, 0, 5}};
        for (int state = 1; state <= 3; state++) {
            for (int i = 0; i < 4; i++) {
                q.due(parts[state - 1][i]).part(state, i);
            }
        }
    }

    private static void partRefusals() {
        Check.sentence("Promise 10", "IllegalStateException: there is no supervisor");
        for (Asked q : withoutSupervisor()) {
            q.due(Check.STATE).part(1, 0);
            q.due(Check.STATE).part(0, 0);
            q.due(Check.STATE).part(1, -1);
        }
        Examples.lostAtOnce("lost").due(Check.STATE).part(1, 0);

        Check.sentence("Promise 10", "IllegalArgumentException: there is no such state");
        Asked q = Examples.pressed("press");
        q.due(Check.ARGUMENT).part(0, 0);
        q.due(Check.ARGUMENT).part(3, 0);
        q.due(Check.ARGUMENT).part(201, 0);
        for (int far : Examples.FAR) {
            q.due(Check.ARGUMENT).part(far, 0);
        }
        Examples.pressStays(q);

        Check.sentence("Promise 10", "IllegalArgumentException: there is no such automaton");
        q = Examples.pressed("press");
        q.due(Check.ARGUMENT).part(1, 1);
        q.due(Check.ARGUMENT).part(1, 4);
        for (int far : Examples.FAR) {
            q.due(Check.ARGUMENT).part(1, far);
        }
        Examples.pressStays(q);
        q = Examples.grid("grid", PLANT);
        q.due(200).make();
        q.due(1).part(200, 3);
        q.due(Check.ARGUMENT).part(200, 4);
        q.due(Check.ARGUMENT).part(201, 3);
    }

    // ---- promise 11

    private static void manyAnswers() {
        Check.sentence("Promise 11", "How many product states are reached (what 0)");
        Asked q = Examples.alone("alone");
        q.due(1).many(0);
        q = Examples.pressed("press");
        q.due(4).many(0);

        Check.sentence("Promise 11", "are good (1)");
        q.due(2).many(1);
        q = Examples.alone("alone");
        q.due(1).many(1);

        Check.sentence("Promise 11", "good ones count that the supervisor does not have");
        // 1 must go to the forbidden 2, and may go to the marked 3 that is good, but behind it.
        q = new Asked("behind").events(2, 0b01).add(0, 4, PLANT, 0b1001);
        q.tell(0, 2, FORBIDDEN, true);
        q.edge(0, 0, 1, 1);
        q.edge(0, 1, 0, 2);
        q.edge(0, 1, 1, 3);
        q.due(1).make();
        q.due(4).many(0);
        q.due(2).many(1);

        Check.sentence("Promise 11", "a result without a supervisor");
        q = Examples.lostAtOnce("lost");
        q.due(2).many(0);
        q.due(0).many(1);
        q = new Asked("good behind a forbidden first").events(1, 0).add(0, 2, PLANT, 0b10);
        q.tell(0, 0, FORBIDDEN, true);
        q.edge(0, 0, 0, 1);
        q.due(0).make();
        q.due(2).many(0);
        q.due(1).many(1);
    }

    private static void manyRefusals() {
        Check.sentence("Promise 11", "IllegalArgumentException: no such what");
        Asked[] results = {Examples.pressed("press"), Examples.lostAtOnce("lost")};
        for (Asked q : results) {
            q.due(Check.ARGUMENT).many(2);
            for (int far : Examples.FAR) {
                q.due(Check.ARGUMENT).many(far);
            }
        }
        Examples.pressStays(results[0]);
        results[1].due(2).many(0);

        Check.sentence("Promise 11", "IllegalStateException: there is no result");
        for (Asked q : withoutSupervisor()) {
            q.due(Check.STATE).many(0);
            q.due(Check.STATE).many(1);
        }
    }

    // ---- promises 12 and 13

    private static void noneLost() {
        Check.sentence("Promise 12", "-1 when none is lost");
        Asked q = Examples.alone("alone");
        q.due(-1).why();
        q = Examples.press("no state forbidden and 2 marked");
        q.tell(0, 2, FORBIDDEN, false);
        q.tell(0, 2, MARKED, true);
        q.due(4).make();
        q.due(-1).why();
        q = Examples.grid("grid", PLANT);
        q.due(200).make();
        q.due(-1).why();

        Check.sentence("Promise 12", "none is lost when only what is not reached is forbidden, or disabled by a rule");
        q = Examples.alone("not reached");
        q.add(1, 2, PLANT, 0b01);
        q.tell(1, 1, FORBIDDEN, true);
        q.edge(1, 1, 0, 0);
        q.due(1).make();
        q.due(-1).why();
        q = new Asked("disabled").events(1, 0).add(0, 2, PLANT, 0b01).add(1, 2, RULE, 0b11);
        q.tell(0, 1, FORBIDDEN, true);
        q.edge(0, 0, 0, 1);
        q.edge(1, 1, 0, 1);
        q.due(1).make();
        q.due(1).says(1, 0);
        q.due(-1).why();

        Check.sentence("Promise 13", "IndexOutOfBoundsException: there is no such event (none is lost)");
        q.due(Check.INDEX).whyEvent(0);
        q.due(Check.INDEX).whyEvent(1);
        for (int far : Examples.FAR) {
            q.due(Check.INDEX).whyEvent(far);
        }
    }

    private static void firstLost() {
        Check.sentence("Promise 12", "the first product state is lost: 0");
        Asked q = Examples.lostAtOnce("lost");
        q.due(0).why();
        Asked f = new Asked("forbidden first").events(1, 0).add(0, 2, PLANT, 0b11);
        f.tell(0, 0, FORBIDDEN, true);
        f.edge(0, 0, 0, 1);
        f.due(0).make();
        f.due(0).why();

        Check.sentence("Promise 13", "IndexOutOfBoundsException: there is no such event (the first is lost)");
        q.due(Check.INDEX).whyEvent(0);
        f.due(Check.INDEX).whyEvent(0);
        f.due(Check.INDEX).whyEvent(1);
        for (int far : Examples.FAR) {
            q.due(Check.INDEX).whyEvent(far);
        }
    }

    /** The counter goes home from wherever plant 0 is not in 4; so it can't from 199. */
    private static void longestWord() {
        Check.sentence("Promise 12", "The length of the shortest word (199, the longest there can be)");
        Asked q = Examples.counter("counter");
        int[] states = {5, 5, 4, 2};
        for (int i = 0; i < 4; i++) {
            q.tell(i, 0, MARKED, true);
            for (int s = 0; s < (i == 0 ? 4 : states[i]); s++) {
                q.edge(i, s, 4, 0);
            }
        }
        q.due(199).make();
        q.due(200).many(0);
        q.due(199).many(1);
        q.due(199).why();
        q.due(1).says(199, 0);

        Check.sentence("Promise 13", "Event i of that word (of 199)");
        for (int i = 0; i < 199; i++) {
            int n = i + 1;
            q.due(n % 100 == 0 ? 3 : n % 25 == 0 ? 2 : n % 5 == 0 ? 1 : 0).whyEvent(i);
        }

        Check.sentence("Promise 13", "IndexOutOfBoundsException: there is no such event (behind 199)");
        q.due(Check.INDEX).whyEvent(199);
        q.due(Check.INDEX).whyEvent(200);
        q.due(Check.INDEX).whyEvent(201);
        q.due(Check.INDEX).whyEvent(-1);
    }

    private static void shortestWords() {
        Check.sentence("Promise 12", "the shortest word: a long one of low events does not count");
        Asked q = new Asked("shorter").events(12, 0).add(0, 4, PLANT, 0b0111);
        q.tell(0, 3, FORBIDDEN, true);
        q.line(0, 0, 3);
        q.edge(0, 1, 11, 3);
        q.due(3).make();
        q.due(2).why();
        q.due(0).whyEvent(0);
        q.due(11).whyEvent(1);
        q.due(Check.INDEX).whyEvent(2);
        q.edge(0, 0, 11, 3);
        q.due(3).make();
        q.due(1).why();
        q.due(11).whyEvent(0);
        q.due(Check.INDEX).whyEvent(1);

        Check.sentence("Promise 12", "a lost one: what must lead to a forbidden one is lost before it");
        q = Examples.pressed("press");
        q.due(1).why();

        Check.sentence("Promise 12", "a word of events that lead on, which a rule may stop");
        q = new Asked("stopped").events(2, 0).add(0, 3, PLANT, 0b011).add(1, 2, RULE, 0b11);
        q.tell(0, 2, FORBIDDEN, true);
        q.edge(0, 0, 0, 2);
        q.edge(0, 0, 1, 1);
        q.edge(0, 1, 1, 2);
        q.edge(1, 1, 0, 1);
        q.due(2).make();
        q.due(2).why();
        q.due(1).whyEvent(0);
        q.due(1).whyEvent(1);
    }

    private static void severalWords() {
        Check.sentence("Promise 13", "of several shortest ones that whose first event has the lowest number");
        Asked q = new Asked("first event").events(12, 0).add(0, 4, PLANT, 0b0111);
        q.tell(0, 3, FORBIDDEN, true);
        q.edge(0, 0, 11, 1);
        q.edge(0, 1, 0, 3);
        q.edge(0, 0, 10, 2);
        q.edge(0, 2, 11, 3);
        q.due(3).make();
        q.due(2).why();
        q.due(10).whyEvent(0);
        q.due(11).whyEvent(1);

        Check.sentence("Promise 13", "of several shortest ones, to different lost ones, too");
        q = new Asked("two lost").events(2, 0).add(0, 3, PLANT, 0b001);
        q.edge(0, 0, 1, 1);
        q.edge(0, 0, 0, 2);
        q.due(1).make();
        q.due(1).why();
        q.due(0).whyEvent(0);

        Check.sentence("Promise 13", "of several of these by their second ones");
        q = new Asked("second event").events(12, 0).add(0, 5, PLANT, 0b00111);
        q.tell(0, 4, FORBIDDEN, true);
        q.edge(0, 0, 3, 1);
        q.edge(0, 0, 5, 2);
        q.edge(0, 1, 9, 4);
        q.edge(0, 1, 8, 3);
        q.edge(0, 2, 0, 4);
        q.due(3).make();
        q.due(2).why();
        q.due(3).whyEvent(0);
        q.due(8).whyEvent(1);

        Check.sentence("Promise 13", "and so on");
        q = new Asked("third event").events(12, 0).add(0, 6, PLANT, 0b011111);
        q.tell(0, 5, FORBIDDEN, true);
        q.edge(0, 0, 2, 1);
        q.edge(0, 0, 4, 2);
        q.edge(0, 2, 0, 4);
        q.edge(0, 4, 0, 5);
        q.edge(0, 1, 7, 3);
        q.edge(0, 3, 11, 5);
        q.edge(0, 3, 6, 5);
        q.due(5).make();
        q.due(3).why();
        q.due(2).whyEvent(0);
        q.due(7).whyEvent(1);
        q.due(6).whyEvent(2);
        q.due(Check.INDEX).whyEvent(3);
    }

    private static void whyRefusals() {
        Check.sentence("Promise 12", "IllegalStateException: there is no result");
        for (Asked q : withoutSupervisor()) {
            q.due(Check.STATE).why();
        }

        Check.sentence("Promise 13", "IllegalStateException: there is no result");
        for (Asked q : withoutSupervisor()) {
            q.due(Check.STATE).whyEvent(0);
            q.due(Check.STATE).whyEvent(-1);
            q.due(Check.STATE).whyEvent(1);
        }

        Check.sentence("Promise 13", "IndexOutOfBoundsException: there is no such event");
        Asked q = Examples.pressed("press");
        q.due(0).whyEvent(0);
        q.due(Check.INDEX).whyEvent(1);
        for (int far : Examples.FAR) {
            q.due(Check.INDEX).whyEvent(far);
        }
        Examples.pressStays(q);
    }

    private ResultBoundaryTest() {
    }
}
