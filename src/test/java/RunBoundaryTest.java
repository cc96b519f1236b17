/** Promises 14 to 19: each sentence that names a boundary case has a test of its own. */
public final class RunBoundaryTest {
    private static final int PLANT = Asked.PLANT;
    private static final int RULE = Asked.RULE;
    private static final int INITIAL = Asked.INITIAL;
    private static final int MARKED = Asked.MARKED;
    private static final int FORBIDDEN = Asked.FORBIDDEN;

    public static void main(String[] args) {
        conflictAnswers();
        conflictMarks();
        conflictWherever();
        conflictAnew();
        conflictOfLost();
        conflictAlone();
        conflictRefusals();
        conflictNotThere();
        conflictProductStates();
        conflictPairs();
        conflictLeavesResults();
        conflictLeavesNoResult();
        actAnswers();
        actRefusals();
        resets();
        places();
        allowedEvents();
        homes();
        Check.end();
    }

    // ---- promise 14

    /** One plant that ends by event 0 or by event 1; rule 1 wants the first, rule 2 the second, rule 3 any. */
    private static Asked atOdds(String name) {
        Asked q = new Asked(name).events(2, 0).add(0, 3, PLANT, 0b110);
        q.edge(0, 0, 0, 1);
        q.edge(0, 0, 1, 2);
        q.add(1, 2, RULE, 0b11).add(2, 2, RULE, 0b11).add(3, 2, RULE, 0b11);
        q.edge(1, 0, 0, 1);
        q.edge(1, 1, 1, 1);
        q.edge(2, 0, 1, 1);
        q.edge(2, 1, 0, 1);
        return q;
    }

    /**
     * Event 0 goes home at once. Behind event 2 rule 1 goes home by event 0 alone and rule 2 by event 1 alone,
     * so that both together can only turn round there by event 3.
     */
    private static Asked atOddsLater(String name) {
        Asked q = new Asked(name).events(4, 0).add(0, 4, PLANT, 0b0010);
        q.edge(0, 0, 0, 1);
        q.edge(0, 0, 2, 2);
        q.edge(0, 2, 3, 3);
        q.edge(0, 3, 3, 2);
        q.edge(0, 2, 0, 1);
        q.edge(0, 2, 1, 1);
        for (int rule = 1; rule <= 2; rule++) {
            q.add(rule, 2, RULE, 0b11);
            q.edge(rule, 0, 0, 0);
            q.edge(rule, 0, 1, 0);
            q.edge(rule, 0, 2, 1);
            q.edge(rule, 1, rule - 1, 1);
        }
        return q;
    }

    private static void conflictAnswers() {
        Check.sentence("Promise 14", "1 when a pair of states is reached so from which none is reached in which"
                + " both are marked (the first pair)");
        Asked q = atOdds("at odds");
        q.due(1).conflict(1, 2);
        q.due(1).conflict(2, 1);

        Check.sentence("Promise 14", "1 when a pair of states is reached so (not the first one, nor a dead end)");
        q = atOddsLater("at odds later");
        q.due(1).conflict(1, 2);
        q.due(1).conflict(2, 1);

        Check.sentence("Promise 14", "0 when not");
        q = atOdds("at odds");
        q.due(0).conflict(1, 3);
        q.due(0).conflict(3, 1);
        q.due(0).conflict(2, 3);
        q.due(0).conflict(3, 2);
        q = atOddsLater("at odds no more");
        q.edge(2, 1, 0, 0);
        q.due(0).conflict(1, 2);
        q.due(0).conflict(2, 1);

        Check.sentence("Promise 14", "a and b the same rule");
        q = atOdds("at odds");
        for (int rule = 1; rule <= 3; rule++) {
            q.due(0).conflict(rule, rule);
        }
        q = atOddsLater("at odds later");
        q.due(0).conflict(1, 1);
        q.due(0).conflict(2, 2);
    }

    private static void conflictMarks() {
        Check.sentence("Promise 14", "none is reached in which both are marked: they mark by turns");
        Asked q = new Asked("turns").events(1, 0).add(0, 1, PLANT, 1).loops(0, 0, 0);
        for (int rule = 1; rule <= 2; rule++) {
            q.add(rule, 2, RULE, rule);
            q.edge(rule, 0, 0, 1);
            q.edge(rule, 1, 0, 0);
        }
        q.due(1).conflict(1, 2);
        q.due(1).conflict(2, 1);

        Check.sentence("Promise 14", "a pair in which both are marked is reached from itself");
        q.tell(2, 0, MARKED, true);
        q.due(0).conflict(1, 2);
        q.due(0).conflict(2, 1);
        q = Examples.alone("alone");
        q.add(1, 1, RULE, 1).add(2, 1, RULE, 1);
        q.due(0).conflict(1, 2);

        Check.sentence("Promise 14", "both must allow an event: what one disables is not done");
        // Rule 1 forbids state 1 of itself, to which event 0 leads; rule 2 has no part in event 0, and
        // marks only what comes behind it.
        q = new Asked("one disables").events(2, 0).add(0, 2, PLANT, 0b11);
        q.edge(0, 0, 0, 1);
        q.add(1, 2, RULE, 0b11).add(2, 2, RULE, 0b10);
        q.edge(1, 0, 0, 1);
        q.edge(2, 0, 0, 1);
        q.due(0).conflict(1, 2);
        q.tell(1, 1, FORBIDDEN, true);
        q.due(1).conflict(1, 2);
        q.due(1).conflict(2, 1);
    }

    /**
     * Rules 0 and 1 stand before plant 2 and start in state 1. Event 0 leads on: rule 0 goes to 0, from where
     * rule 0 goes home by event 1 alone and rule 1 by event 11 alone.
     */
    private static Asked rulesFirst(String name) {
        Asked q = new Asked(name).events(12, 0).add(0, 2, RULE, 0b11).add(1, 3, RULE, 0b111).add(2, 3, PLANT, 0b110);
        q.tell(0, 1, INITIAL, true);
        q.tell(1, 1, INITIAL, true);
        q.edge(2, 0, 0, 0);
        q.edge(2, 0, 1, 1);
        q.edge(2, 0, 11, 2);
        q.edge(0, 1, 0, 0);
        q.edge(0, 1, 1, 1);
        q.edge(0, 1, 11, 1);
        q.edge(0, 0, 1, 0);
        q.edge(1, 1, 0, 2);
        q.edge(1, 1, 1, 1);
        q.edge(1, 1, 11, 1);
        q.edge(1, 2, 11, 1);
        return q;
    }

    private static void conflictWherever() {
        Check.sentence("Promise 14", "a and b before the plants, with initial states that are not 0");
        Asked q = rulesFirst("rules first");
        q.due(1).conflict(0, 1);
        q.due(1).conflict(1, 0);
        q.due(0).conflict(0, 0);
        q.due(0).conflict(1, 1);

        Check.sentence("Promise 14", "pairs that differ in the state of one rule alone are two");
        // Event 2 takes rule 0 alone from 1 to 0, where it goes home by event 1, which rule 1 stops.
        q = new Asked("one rule moves").events(3, 0).add(0, 2, RULE, 0b11).add(1, 2, RULE, 0b11);
        q.add(2, 2, PLANT, 0b10);
        q.tell(0, 1, INITIAL, true);
        q.edge(2, 0, 0, 1);
        q.edge(2, 0, 1, 1);
        q.edge(2, 0, 2, 0);
        q.loops(0, 1, 1);
        q.edge(0, 1, 0, 1);
        q.edge(0, 1, 2, 0);
        q.edge(1, 0, 0, 0);
        q.edge(1, 1, 1, 1);
        q.due(1).conflict(0, 1);
        q.due(1).conflict(1, 0);
    }

    private static void conflictAnew() {
        Check.sentence("Promise 14", "a pair is reached: what an earlier call reached does not count");
        // In 3 rule 1 goes home by event 3 alone, rule 2 by event 4 alone; both get there by event 0 or 1, and 2.
        Asked q = new Asked("anew").events(5, 0).add(0, 4, PLANT, 0b0001).add(1, 2, RULE, 0b11);
        q.add(2, 2, RULE, 0b11);
        q.edge(0, 0, 0, 1);
        q.edge(0, 0, 1, 2);
        q.edge(0, 1, 2, 3);
        q.edge(0, 2, 2, 3);
        q.edge(0, 3, 3, 0);
        q.edge(0, 3, 4, 0);
        q.edge(1, 1, 4, 1);
        q.edge(2, 1, 3, 1);
        q.due(1).conflict(1, 2);
        // Now rule 1 stops event 1, and rule 2 event 0: both stay at home.
        q.edge(1, 1, 1, 1);
        q.edge(2, 1, 0, 1);
        q.due(0).conflict(1, 2);
        q.due(0).conflict(2, 1);
    }

    private static void conflictOfLost() {
        Check.sentence("Promise 14", "what both supervisors have lost is no pair");
        // The press is at home in 3 now, and does not leave it; 1 and 2 are lost.
        Asked q = new Asked("press").events(4, 0b1010).add(0, 4, PLANT, 0b1000);
        q.tell(0, 2, FORBIDDEN, true);
        q.edge(0, 0, 0, 1);
        q.edge(0, 1, 1, 2);
        q.edge(0, 0, 2, 3);
        q.add(1, 1, RULE, 1).add(2, 1, RULE, 1);
        q.due(0).conflict(1, 2);
        q.due(0).conflict(2, 1);
    }

    private static void conflictAlone() {
        Check.sentence("Promise 14", "the supervisors of all plants with rule a alone, and with rule b alone");
        // Rules 1 and 2 are at odds; rule 3, alone with itself or with one of them, has no part in that.
        Asked q = atOdds("a third rule");
        q.due(0).make();
        q.due(0).conflict(1, 3);
        q.due(0).conflict(3, 3);

        Check.sentence("Promise 14", "a third rule that would stop everything, or has no initial state");
        q.tell(3, 0, FORBIDDEN, true);
        q.due(1).conflict(1, 2);
        q.due(0).conflict(1, 1);
        q.tell(3, 0, INITIAL, false);
        q.due(1).conflict(1, 2);
        q.due(0).conflict(2, 2);
        q.due(-2).make();

        Check.sentence("Promise 14", "all plants: those with a higher number than the rules, too");
        q = new Asked("plants around").events(2, 0).add(0, 1, RULE, 1).add(1, 2, PLANT, 0b10).add(2, 1, RULE, 1);
        q.edge(1, 0, 0, 1);
        q.due(0).conflict(0, 2);
        q.add(3, 2, PLANT, 0b01);
        q.edge(3, 0, 0, 1);
        q.due(-1).conflict(0, 2);
        q.tell(3, 1, MARKED, true);
        q.due(0).conflict(0, 2);
    }

    private static void conflictRefusals() {
        Check.sentence("Promise 14", "IllegalArgumentException: a is no rule");
        Asked q = atOdds("at odds");
        q.due(Check.ARGUMENT).conflict(0, 1);
        q.due(Check.ARGUMENT).conflict(4, 1);
        for (int far : Examples.FAR) {
            q.due(Check.ARGUMENT).conflict(far, 1);
        }

        Check.sentence("Promise 14", "IllegalArgumentException: b is no rule");
        q.due(Check.ARGUMENT).conflict(1, 0);
        q.due(Check.ARGUMENT).conflict(1, 4);
        for (int far : Examples.FAR) {
            q.due(Check.ARGUMENT).conflict(1, far);
        }

        Check.sentence("Promise 14", "IllegalArgumentException: neither is a rule, or there is none");
        q.due(Check.ARGUMENT).conflict(0, 0);
        q.due(Check.ARGUMENT).conflict(4, 4);
        q.due(Check.ARGUMENT).conflict(-1, -1);
        q = Examples.pressed("press");
        q.due(Check.ARGUMENT).conflict(0, 0);
        q.due(Check.ARGUMENT).conflict(1, 1);
        Examples.pressStays(q);
        new Asked("new").due(Check.ARGUMENT).conflict(0, 0);

        Check.sentence("Promise 14", "IllegalArgumentException where -1 would be due");
        q = new Asked("no plant").add(0, 1, RULE, 1);
        q.due(Check.ARGUMENT).conflict(0, 1);
        q.due(Check.ARGUMENT).conflict(1, 0);
    }

    private static void conflictNotThere() {
        Check.sentence("Promise 14", "-1 when one of both is not there");
        Asked q = atOdds("at odds");
        q.tell(1, 0, FORBIDDEN, true);
        q.due(-1).conflict(1, 3);
        q.due(-1).conflict(3, 1);
        q.due(-1).conflict(1, 1);
        q.due(0).conflict(2, 3);
        q.tell(3, 0, MARKED, false);
        q.due(-1).conflict(2, 3);
        q.due(-1).conflict(3, 2);
        q.due(-1).conflict(1, 3);
        q.due(0).conflict(2, 2);

        Check.sentence("Promise 14", "-1 also without a plant");
        q = new Asked("no plant").add(0, 1, RULE, 1).add(1, 1, RULE, 1);
        q.due(-1).conflict(0, 1);
        q.due(-1).conflict(1, 0);
        q.due(-1).conflict(0, 0);

        Check.sentence("Promise 14", "-1 also without an initial state: of a, of b, of a plant");
        q = atOdds("at odds");
        q.tell(2, 0, INITIAL, false);
        q.due(-1).conflict(2, 3);
        q.due(-1).conflict(3, 2);
        q.due(-1).conflict(2, 2);
        q.due(0).conflict(1, 3);
        q.tell(2, 0, INITIAL, true);
        q.due(0).conflict(2, 3);
        q.tell(0, 0, INITIAL, false);
        q.due(-1).conflict(2, 3);
        q.due(-1).conflict(1, 1);
    }

    private static void conflictProductStates() {
        Check.sentence("Promise 14", "exactly 200 product states are not more than 200");
        Asked q = Examples.grid("grid", RULE);
        q.due(0).conflict(3, 3);

        Check.sentence("Promise 14", "-1 when more than 200 product states are reached");
        Examples.oneMore(q);
        q.due(-1).conflict(3, 3);

        Check.sentence("Promise 14", "-1 when more than 200 product states are reached, though few are pairs");
        q.tell(0, 1, FORBIDDEN, true);
        q.due(-1).conflict(3, 3);
        q.tell(3, 1, INITIAL, true);
        q.due(0).conflict(3, 3);

        Check.sentence("Promise 14", "-1 when more than 200 product states are reached with one of both rules");
        q = new Asked("216").events(3, 0).add(0, 6, PLANT, 1).add(1, 6, PLANT, 1).add(2, 6, RULE, 1);
        q.add(3, 1, RULE, 1);
        q.line(0, 0, 5).line(1, 1, 5).line(2, 2, 5).loops(0, 2, 5);
        q.due(-1).conflict(2, 3);
        q.due(-1).conflict(3, 2);
        q.due(-1).conflict(2, 2);
        q.due(0).conflict(3, 3);
    }

    /** Plants that reach 25 product states, rule 2 that reaches 4 states by event 2, and rule 3 that reaches 2. */
    private static Asked pairs(String name) {
        Asked q = new Asked(name).events(5, 0).add(0, 5, PLANT, 0b11111).add(1, 5, PLANT, 0b11111);
        q.add(2, 4, RULE, 0b1111).add(3, 3, RULE, 0b111);
        q.line(0, 0, 4).line(1, 1, 4).line(2, 2, 3).line(3, 3, 1).loops(0, 2, 4).loops(0, 3, 4);
        return q;
    }

    private static void conflictPairs() {
        Check.sentence("Promise 14", "exactly 200 pairs are not more than 200");
        Asked q = pairs("pairs");
        q.due(0).conflict(2, 3);
        q.due(0).conflict(3, 2);

        Check.sentence("Promise 14", "-1 when more than 200 pairs are reached, though not of product states");
        Examples.oneMore(q);
        q.due(-1).conflict(2, 3);
        q.due(-1).conflict(3, 2);
        q.due(0).conflict(2, 2);
        q.due(0).conflict(3, 3);

        Check.sentence("Promise 14", "what both disable makes no pairs");
        q.due(-1).make();
        q.tell(0, 4, FORBIDDEN, true);
        q.due(-1).make();
        q.due(0).conflict(2, 3);
        q.due(0).conflict(3, 2);
    }

    private static void conflictLeavesResults() {
        Check.sentence("Promise 14", "Results stay. (conflict answers 0)");
        Asked q = Examples.press("press");
        q.add(1, 1, RULE, 1).add(2, 1, RULE, 1);
        q.due(2).make();
        q.due(2).act(2);
        q.due(0).conflict(1, 2);
        Examples.pressStays(q);
        q.due(0).conflict(2, 2);
        Examples.pressStays(q);

        Check.sentence("Promise 14", "Results stay. (refused)");
        q.due(Check.ARGUMENT).conflict(0, 1);
        q.due(Check.ARGUMENT).conflict(1, 3);
        Examples.pressStays(q);

        Check.sentence("Promise 14", "Results stay. (conflict answers 1)");
        q = atOddsLater("at odds later");
        q.due(2).make();
        q.due(2).act(0);
        q.due(1).conflict(1, 2);
        q.due(2).here();
        q.due(0).home();
        q.due(0).allowed();
        q.due(4).many(0);
        q.due(2).many(1);
        q.due(1).why();
        q.due(2).whyEvent(0);
        q.due(1).says(1, 2);
        q.due(2).leads(1, 0);
        q.due(1).part(2, 0);
        q.due(0).part(2, 2);

        Check.sentence("Promise 14", "Results stay. (conflict answers -1)");
        // Rule 3 stops event 2, by which rule 2 would make 216 product states.
        q = new Asked("216").events(3, 0).add(0, 6, PLANT, 0b100001).add(1, 6, PLANT, 1).add(2, 6, RULE, 1);
        q.add(3, 2, RULE, 1);
        q.line(0, 0, 5).line(1, 1, 5).line(2, 2, 5).loops(0, 2, 5);
        q.edge(3, 1, 2, 1);
        q.due(6).make();
        q.due(2).act(0);
        q.due(-1).conflict(2, 3);
        q.due(2).here();
        q.due(4).home();
        q.due(36).many(0);
        q.due(6).many(1);
        q.due(1).why();
        q.due(1).whyEvent(0);
        q.due(1).says(6, 2);
        q.due(5).part(6, 0);
    }

    private static void conflictLeavesNoResult() {
        Check.sentence("Promise 14", "Results stay. (there is none)");
        Asked q = atOdds("at odds");
        q.due(1).conflict(1, 2);
        q.due(0).conflict(1, 3);
        q.hasNoResult();

        Check.sentence("Promise 14", "Results stay. (without a supervisor)");
        q.tell(1, 0, FORBIDDEN, true);
        q.due(0).make();
        q.due(-1).conflict(1, 3);
        q.due(0).conflict(2, 3);
        q.hasNoSupervisor();
        q.due(1).many(0);
        q.due(0).many(1);
        q.due(0).why();
    }

    // ---- promise 15

    private static void actAnswers() {
        Check.sentence("Promise 15", "0 they may not");
        Asked q = Examples.press("press");
        q.due(2).make();
        q.due(0).act(1);
        q.due(0).act(3);
        q.due(1).here();

        Check.sentence("Promise 15", "0 for an event that no automaton has, declared or not");
        for (int e = 4; e < Asked.EVENTS; e++) {
            q.due(0).act(e);
        }
        q.due(1).here();

        Check.sentence("Promise 15", "1 it is disabled");
        q.due(1).act(0);
        q.due(1).here();
        q.due(1).act(0);
        q.due(1).here();

        Check.sentence("Promise 15", "2 done");
        q.due(2).act(2);
        q.due(2).here();
        q.due(2).act(3);
        q.due(1).here();
        q = new Asked("events 0 and 11").events(12, 0).add(0, 2, PLANT, 0b11);
        q.edge(0, 0, 11, 1);
        q.edge(0, 1, 0, 0);
        q.edge(0, 1, 11, 1);
        q.due(2).make();
        q.due(2).act(11);
        q.due(2).here();
        q.due(2).act(11);
        q.due(2).here();
        q.due(2).act(0);
        q.due(1).here();
        q.due(0).act(0);

        Check.sentence("Promise 15", "if they may and the supervisor allows it: 200 states on");
        q = Examples.counter("counter");
        markLast(q);
        q.due(200).make();
        for (int n = 1; n < 200; n++) {
            q.due(2).act(n % 100 == 0 ? 3 : n % 25 == 0 ? 2 : n % 5 == 0 ? 1 : 0);
        }
        q.due(200).here();
        q.due(0).act(0);
        q.due(0).act(3);
        q.due(200).here();
    }

    private static void actRefusals() {
        Check.sentence("Promise 15", "IllegalStateException: there is no supervisor");
        for (Asked q : withoutSupervisor()) {
            q.due(Check.STATE).act(0);
            q.due(Check.STATE).act(11);
            q.due(Check.STATE).act(12);
        }

        Check.sentence("Promise 15", "IllegalArgumentException: there is no such event");
        Asked q = Examples.pressed("press");
        q.due(Check.ARGUMENT).act(12);
        q.due(Check.ARGUMENT).act(32);
        q.due(Check.ARGUMENT).act(35);
        for (int far : Examples.FAR) {
            q.due(Check.ARGUMENT).act(far);
        }
        Examples.pressStays(q);
    }

    // ---- promises 16 to 19

    private static Asked[] withoutSupervisor() {
        Asked tooMany = Examples.grid("too many", PLANT);
        Examples.oneMore(tooMany);
        tooMany.due(-1).make();
        Asked notReady = Examples.pressed("not ready");
        notReady.automaton(1, RULE);
        notReady.due(-2).make();
        Asked changed = Examples.pressed("changed");
        changed.tell(0, 0, MARKED, true);
        Asked cleared = Examples.pressed("cleared");
        cleared.clear();
        return new Asked[] {new Asked("new"), Examples.press("not made"), Examples.lostAtOnce("lost"), tooMany,
                notReady, changed, cleared};
    }

    private static void resets() {
        Check.sentence("Promise 16", "The plants are at the beginning.");
        Asked q = Examples.pressed("press");
        q.due(2).here();
        q.done().reset();
        q.due(1).here();
        q.done().reset();
        q.due(1).here();
        q.due(0b100).allowed();
        q.due(2).act(2);
        Examples.pressStays(q);

        Check.sentence("Promise 16", "IllegalStateException: there is no supervisor");
        for (Asked w : withoutSupervisor()) {
            w.due(Check.STATE).reset();
        }
    }

    private static void places() {
        Check.sentence("Promise 17", "The state of the supervisor in which the plants are.");
        Asked q = Examples.press("press");
        q.due(2).make();
        q.due(1).here();
        q.due(2).act(2);
        q.due(2).here();
        q.due(2).here();
        q.due(0).act(2);
        q.due(2).here();
        q.due(2).act(3);
        q.due(1).here();

        Check.sentence("Promise 17", "IllegalStateException: there is no supervisor");
        for (Asked w : withoutSupervisor()) {
            w.due(Check.STATE).here();
        }
    }

    private static void allowedEvents() {
        Check.sentence("Promise 18", "The events that are allowed here, a bit each: none, one, all twelve");
        Asked q = Examples.alone("alone");
        q.due(0).allowed();
        q = new Asked("twelve").events(12, 0b010101010101).add(0, 3, PLANT, 0b111);
        for (int e = 0; e < Asked.EVENTS; e++) {
            q.edge(0, 0, e, 1);
        }
        q.edge(0, 1, 11, 2);
        q.due(3).make();
        q.due(0b111111111111).allowed();
        q.due(2).act(5);
        q.due(0b100000000000).allowed();
        q.due(2).act(11);
        q.due(0).allowed();

        Check.sentence("Promise 18", "allowed here: not what is disabled, nor what is allowed elsewhere");
        q = Examples.press("press");
        q.due(2).make();
        q.due(0b0100).allowed();
        q.due(2).act(2);
        q.due(0b1000).allowed();
        q = new Asked("event 0 elsewhere").events(12, 0).add(0, 3, PLANT, 0b111);
        q.edge(0, 0, 11, 1);
        q.edge(0, 1, 0, 2);
        q.edge(0, 2, 11, 2);
        q.due(3).make();
        q.due(0b100000000000).allowed();
        q.due(2).act(11);
        q.due(0b000000000001).allowed();

        Check.sentence("Promise 18", "IllegalStateException: there is no supervisor");
        for (Asked w : withoutSupervisor()) {
            w.due(Check.STATE).allowed();
        }
    }

    /** Of the counter 199 alone is marked. */
    private static void markLast(Asked q) {
        q.tell(0, 4, MARKED, true);
        q.tell(1, 4, MARKED, true);
        q.tell(2, 3, MARKED, true);
        q.tell(3, 1, MARKED, true);
    }

    private static void homes() {
        Check.sentence("Promise 19", "0 when this is one");
        Asked q = Examples.alone("alone");
        q.due(0).home();
        q = Examples.press("press");
        q.due(2).make();
        q.due(0).home();
        q.due(2).act(2);
        q.due(2).act(3);
        q.due(0).home();
        Asked m = new Asked("marked, and a way on").events(12, 0).add(0, 2, PLANT, 0b11);
        for (int e = 0; e < Asked.EVENTS; e++) {
            m.edge(0, 0, e, 1);
            m.edge(0, 1, e, e % 2);
        }
        m.due(2).make();
        m.due(0).home();
        m.due(2).act(11);
        m.due(0).home();

        Check.sentence("Promise 19", "The length of the shortest word from here to a marked state");
        q.due(2).act(2);
        q.due(1).home();
        q = new Asked("two ways").events(2, 0).add(0, 4, PLANT, 0b1000).line(0, 0, 3);
        q.edge(0, 0, 1, 2);
        q.due(4).make();
        q.due(2).home();
        q.due(2).act(0);
        q.due(2).home();

        Check.sentence("Promise 19", "of allowed events: a shorter way that is disabled does not count");
        q = new Asked("forbidden way").events(2, 0).add(0, 5, PLANT, 0b01000).line(0, 0, 3);
        q.edge(0, 0, 1, 4);
        q.edge(0, 4, 1, 3);
        q.due(5).make();
        q.due(2).home();
        q.tell(0, 4, FORBIDDEN, true);
        q.due(4).make();
        q.due(3).home();

        Check.sentence("Promise 19", "to a marked state: a forbidden one that is marked does not count");
        q.tell(0, 4, MARKED, true);
        q.due(4).make();
        q.due(3).home();

        Check.sentence("Promise 19", "The length of the shortest word (199, the longest there can be)");
        q = Examples.counter("counter");
        markLast(q);
        q.due(200).make();
        for (int n = 1; n < 200; n++) {
            q.due(200 - n).home();
            q.act(n % 100 == 0 ? 3 : n % 25 == 0 ? 2 : n % 5 == 0 ? 1 : 0);
        }
        q.due(0).home();

        Check.sentence("Promise 19", "IllegalStateException: there is no supervisor");
        for (Asked w : withoutSupervisor()) {
            w.due(Check.STATE).home();
        }
    }

    private RunBoundaryTest() {
    }
}
