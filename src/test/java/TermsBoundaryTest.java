/** The sentences of the document's section "Terms", and the one on at most 512 calls. */
public final class TermsBoundaryTest {
    private static final int PLANT = Asked.PLANT;
    private static final int RULE = Asked.RULE;
    private static final int INITIAL = Asked.INITIAL;
    private static final int MARKED = Asked.MARKED;
    private static final int FORBIDDEN = Asked.FORBIDDEN;

    public static void main(String[] args) {
        automata();
        states();
        events();
        eventsHad();
        productStates();
        mayDo();
        leadsOn();
        leadsOnWhereverTheRuleIs();
        goesAlong();
        reached();
        goodNotForbidden();
        goodUncontrollable();
        goodReachesMarked();
        goodIsGreatest();
        lost();
        supervisorStates();
        supervisorNumbers();
        supervisorVerdicts();
        callsUpToTheLast();
        lastCalls();
        laterCalls();
        Check.end();
    }

    private static void automata() {
        Check.sentence("Terms", "AUTOMATA 0, 1, .., at most 4");
        Asked q = new Asked("automata");
        for (int i = 0; i < 4; i++) {
            q.due(Check.ARGUMENT).tell(i, 0, INITIAL, true);
            q.due(i).automaton(1, i % 2);
            q.done().tell(i, 0, INITIAL, true);
        }
        q.due(Check.STATE).automaton(1, PLANT);
        q.due(Check.ARGUMENT).tell(4, 0, INITIAL, true);

        Check.sentence("Terms", "are PLANTS (kind 0) or RULES (kind 1)");
        q = new Asked("kinds").add(0, 1, 1, 1);
        q.due(-1).conflict(0, 0);
        q.due(-2).make();
        q.add(1, 1, 0, 1);
        q.due(1).make();
        q.due(0).conflict(0, 0);
        q.due(Check.ARGUMENT).conflict(1, 1);
    }

    private static void states() {
        Check.sentence("Terms", "with 1 to 6 STATES each");
        Asked q = new Asked("states").events(1, 0);
        q.due(0).automaton(1, PLANT);
        q.due(1).automaton(6, PLANT);
        q.done().tell(0, 0, INITIAL, true);
        q.due(Check.ARGUMENT).tell(0, 1, INITIAL, true);
        q.due(Check.ARGUMENT).tell(0, -1, INITIAL, true);
        q.done().tell(1, 5, INITIAL, true);
        q.due(Check.ARGUMENT).tell(1, 6, INITIAL, true);
        q.due(Check.ARGUMENT).tell(1, -1, INITIAL, true);
        q.tell(0, 0, MARKED, true);
        q.tell(1, 5, MARKED, true);
        q.due(1).make();
        q.due(0).part(1, 0);
        q.due(5).part(1, 1);

        Check.sentence("Terms", "one of which is INITIAL (none at first)");
        q = new Asked("initial").events(1, 0);
        q.automaton(3, PLANT);
        for (int s = 0; s < 3; s++) {
            q.tell(0, s, MARKED, true);
        }
        q.due(-2).make();
        q.tell(0, 1, INITIAL, true);
        q.tell(0, 2, INITIAL, true);
        q.due(1).make();
        q.due(2).part(1, 0);
        q.tell(0, 2, INITIAL, false);
        q.due(-2).make();

        Check.sentence("Terms", "some MARKED, some FORBIDDEN (none at first, all, one state both)");
        q = new Asked("some").events(1, 0).add(0, 2, PLANT, 0);
        q.edge(0, 0, 0, 1);
        q.due(0).make();
        q.due(0).many(1);
        q.tell(0, 0, MARKED, true);
        q.tell(0, 1, MARKED, true);
        q.due(2).make();
        q.tell(0, 1, FORBIDDEN, true);
        q.due(1).make();
        q.tell(0, 0, FORBIDDEN, true);
        q.due(0).make();
        q.due(0).many(1);
    }

    private static void events() {
        Check.sentence("Terms", "EVENTS 0 .. 11 are CONTROLLABLE");
        for (int e = 0; e < Asked.EVENTS; e++) {
            Asked q = new Asked("controllable " + e).add(0, 2, PLANT, 0b01);
            q.due(1).event(e, true);
            q.edge(0, 0, e, 1);
            q.due(1).make();
            q.due(1).says(1, e);
        }

        Check.sentence("Terms", "or not");
        for (int e = 0; e < Asked.EVENTS; e++) {
            Asked q = new Asked("not controllable " + e).add(0, 2, PLANT, 0b01);
            q.due(1).event(e, false);
            q.edge(0, 0, e, 1);
            q.due(0).make();
            q.due(0).why();
        }

        Check.sentence("Terms", "once they are declared");
        Asked q = new Asked("not declared").add(0, 1, PLANT, 1);
        for (int e = 0; e < Asked.EVENTS; e++) {
            q.due(Check.STATE).edge(0, 0, e, 0);
        }
        q.due(1).make();
        q.due(0).allowed();
        q.due(2).says(1, 0);
        q.due(0).leads(1, 11);
        q.due(0).act(11);
    }

    private static void eventsHad() {
        Check.sentence("Terms", "an automaton HAS the events of its edges (from a state that is not reached, too)");
        Asked q = new Asked("has").events(1, 0).add(0, 2, PLANT, 0b11).add(1, 2, RULE, 0b11);
        q.edge(0, 0, 0, 1);
        q.due(2).make();
        q.edge(1, 1, 0, 1);
        q.due(1).make();
        q.due(1).says(1, 0);
        q = new Asked("plant has").events(1, 0).add(0, 2, PLANT, 0b11).add(1, 2, PLANT, 0b11);
        q.edge(0, 0, 0, 1);
        q.due(2).make();
        q.edge(1, 1, 0, 1);
        q.due(1).make();
        q.due(2).says(1, 0);

        Check.sentence("Terms", "and takes no part in others");
        q = new Asked("no part").events(2, 0b10).add(0, 3, PLANT, 0b111).add(1, 2, PLANT, 0b11);
        q.add(2, 2, RULE, 0b11);
        q.edge(0, 0, 0, 1);
        q.edge(0, 1, 1, 2);
        q.due(3).make();
        for (int s = 1; s <= 3; s++) {
            q.due(s - 1).part(s, 0);
            q.due(0).part(s, 1);
            q.due(0).part(s, 2);
        }
    }

    private static void productStates() {
        Check.sentence("Terms", "A PRODUCT STATE is marked when all of these are");
        int[] kinds = {PLANT, RULE, PLANT, RULE};
        for (int unmarked = 0; unmarked < 4; unmarked++) {
            Asked q = new Asked("unmarked " + unmarked);
            for (int i = 0; i < 4; i++) {
                q.add(i, 1, kinds[i], i == unmarked ? 0 : 1);
            }
            q.due(0).make();
            q.tell(unmarked, 0, MARKED, true);
            q.due(1).make();
            q.due(0).home();
        }

        Check.sentence("Terms", "forbidden when one is");
        for (int forbidden = 0; forbidden < 4; forbidden++) {
            Asked q = new Asked("forbidden " + forbidden);
            for (int i = 0; i < 4; i++) {
                q.add(i, 1, kinds[i], 1);
            }
            q.due(1).make();
            q.tell(forbidden, 0, FORBIDDEN, true);
            q.due(0).make();
            q.due(0).why();
        }
    }

    private static void mayDo() {
        Check.sentence("Terms", "the plants MAY do an event when some plant has it");
        Asked q = new Asked("no plant has it").events(2, 0b10).add(0, 1, PLANT, 1).add(1, 2, RULE, 0b11);
        q.edge(1, 0, 0, 1);
        q.edge(1, 0, 1, 1);
        q.due(1).make();
        q.due(1).many(0);
        q.due(2).says(1, 0);
        q.due(2).says(1, 1);
        q.due(0).act(0);
        q.due(0).allowed();
        q.edge(0, 0, 0, 0);
        q.due(2).make();
        q.due(0).says(1, 0);
        q.due(2).says(1, 1);

        Check.sentence("Terms", "and each plant that has it has an edge with it from its state");
        q = new Asked("each plant").events(2, 0b10).add(0, 2, PLANT, 0b11).add(1, 2, PLANT, 0b11);
        for (int e = 0; e < 2; e++) {
            q.edge(0, 0, e, 0);
            q.edge(1, 1, e, 1);
        }
        q.due(1).make();
        q.due(2).says(1, 0);
        q.due(2).says(1, 1);
        q.tell(1, 1, INITIAL, true);
        q.due(1).make();
        q.due(0).says(1, 0);
        q.due(0).says(1, 1);
        q.tell(0, 1, INITIAL, true);
        q.due(1).make();
        q.due(2).says(1, 0);
        q.due(2).says(1, 1);
    }

    private static void leadsOn() {
        Check.sentence("Terms", "The event LEADS on when besides each rule that has it has an edge with it");
        Asked q = new Asked("each rule").events(1, 0).add(0, 1, RULE, 1).add(1, 1, PLANT, 1).add(2, 2, RULE, 0b11);
        q.add(3, 2, RULE, 0b11);
        q.loops(1, 0, 0);
        q.due(1).make();
        q.due(0).says(1, 0);
        q.edge(2, 1, 0, 1);
        q.edge(3, 1, 0, 1);
        for (int first = 0; first < 4; first++) {
            q.tell(2, first & 1, INITIAL, true);
            q.tell(3, first >> 1, INITIAL, true);
            q.due(1).make();
            q.due(first == 3 ? 0 : 1).says(1, 0);
            q.due(first == 3 ? 1 : 0).leads(1, 0);
        }
    }

    private static void leadsOnWhereverTheRuleIs() {
        Check.sentence("Terms", "each rule that has it, be its number lower or higher than the plants'");
        for (int rule = 0; rule < 4; rule++) {
            Asked q = new Asked("rule " + rule).events(1, 0);
            for (int i = 0; i < 4; i++) {
                q.add(i, 2, i == rule ? RULE : PLANT, 0b11);
                q.loops(i, 0, i == rule ? 0 : 1);
            }
            q.due(1).make();
            q.due(0).says(1, 0);
            q.tell(rule, 1, INITIAL, true);
            q.due(1).make();
            q.due(1).says(1, 0);
        }
    }

    private static void goesAlong() {
        Check.sentence("Terms", "the automata that have it go along their edges");
        Asked q = new Asked("along").events(2, 0).add(0, 6, PLANT, 0b111111).add(1, 6, RULE, 0b111111);
        q.add(2, 6, PLANT, 0b111111).add(3, 6, RULE, 0b111111);
        q.edge(0, 0, 0, 5);
        q.edge(1, 0, 0, 4);
        q.edge(3, 0, 0, 0);
        q.edge(2, 0, 1, 3);
        q.edge(3, 0, 1, 2);
        q.edge(0, 5, 1, 1);
        q.due(3).make();
        int[][] parts = {{0, 0, 0, 0}, {5, 4, 0, 0}, {1, 4, 3, 2}};
        for (int s = 1; s <= 3; s++) {
            for (int i = 0; i < 4; i++) {
                q.due(parts[s - 1][i]).part(s, i);
            }
        }
    }

    private static void reached() {
        Check.sentence("Terms", "REACHED from the product state of all initial states, which is reached itself");
        Asked q = Examples.alone("alone");
        q.due(1).many(0);
        q = new Asked("initial").events(1, 0).add(0, 3, PLANT, 0b111).line(0, 0, 2);
        q.due(3).make();
        q.tell(0, 1, INITIAL, true);
        q.due(2).make();
        q.due(2).many(0);
        q.tell(0, 2, INITIAL, true);
        q.due(1).make();
        q.due(1).many(0);

        Check.sentence("Terms", "REACHED through forbidden ones, too");
        q = new Asked("through").events(1, 0).add(0, 4, PLANT, 0b1111).line(0, 0, 3);
        q.tell(0, 1, FORBIDDEN, true);
        q.due(1).make();
        q.due(4).many(0);
        q.due(3).many(1);
    }

    private static void goodNotForbidden() {
        Check.sentence("Terms", "GOOD: none of it is forbidden");
        Asked q = new Asked("forbidden").events(2, 0).add(0, 3, PLANT, 0b111).line(0, 0, 2);
        q.edge(0, 2, 1, 0);
        for (int s = 0; s < 3; s++) {
            q.tell(0, s, FORBIDDEN, true);
            q.due(s).make();
            q.due(3).many(0);
            q.due(2).many(1);
            q.due(s).why();
            q.tell(0, s, FORBIDDEN, false);
        }
    }

    private static void goodUncontrollable() {
        Check.sentence("Terms", "each event that is not controllable and that the plants may do leads to one of it");
        for (int i = 0; i < 2; i++) {
            // From 1 event 1 leads to the forbidden 2: that loses 1 when it can't be forbidden.
            Asked q = new Asked("to a lost one").events(2, i << 1).add(0, 3, PLANT, 0b111);
            q.edge(0, 0, 0, 1);
            q.edge(0, 1, 1, 2);
            q.tell(0, 2, FORBIDDEN, true);
            q.due(2 - i).make();
            q.due(2 - i).many(1);
            q.due(2 - i).why();

            // In 1 a rule stops event 1.
            q = new Asked("stopped by a rule").events(2, i << 1).add(0, 2, PLANT, 0b11).add(1, 2, RULE, 0b11);
            q.edge(0, 0, 0, 1);
            q.edge(0, 1, 1, 1);
            q.edge(1, 1, 1, 1);
            q.due(2 - i).make();
            q.due(2).many(0);
            q.due(2 - i).many(1);
        }

        Check.sentence("Terms", "one that the plants may not do loses nothing, though a rule has an edge with it");
        Asked q = new Asked("not theirs").events(1, 0b1).add(0, 2, PLANT, 0b11).add(1, 2, RULE, 0b11);
        q.edge(0, 1, 0, 1);
        q.edge(1, 0, 0, 1);
        q.tell(1, 1, FORBIDDEN, true);
        q.due(1).make();
        q.due(-1).why();

        Check.sentence("Terms", "what must lead to a lost one is lost, and so on back to the first");
        q = new Asked("back to the first").events(2, 0b01).add(0, 6, PLANT, 0b111111).line(0, 0, 5);
        q.tell(0, 5, FORBIDDEN, true);
        q.due(0).make();
        q.due(6).many(0);
        q.due(0).many(1);
        q.due(0).why();

        Check.sentence("Terms", "what must lead to a lost one is lost, also when it is found after it");
        // In 1 the rule stops event 2, which leads there from 2, too, and can't be forbidden.
        q = new Asked("found after it").events(3, 0b100).add(0, 3, PLANT, 0b111).add(1, 3, RULE, 0b111);
        q.edge(0, 0, 0, 1);
        q.edge(0, 0, 1, 2);
        q.edge(0, 1, 2, 1);
        q.edge(0, 2, 2, 1);
        q.edge(1, 0, 1, 1);
        q.edge(1, 1, 2, 2);
        q.edge(1, 0, 0, 2);
        q.due(1).make();
        q.due(3).many(0);
        q.due(1).many(1);
    }

    private static void goodReachesMarked() {
        Check.sentence("Terms", "from each of it a marked one of it can be reached: a dead end, a ring");
        Asked q = new Asked("dead end").events(2, 0).add(0, 4, PLANT, 0b0001);
        q.edge(0, 0, 0, 1);
        q.due(1).make();
        q.due(2).many(0);
        q.due(1).many(1);
        q.edge(0, 1, 0, 2);
        q.edge(0, 2, 0, 1);
        q.due(1).make();
        q.due(3).many(0);
        q.due(1).many(1);
        q.edge(0, 2, 1, 0);
        q.due(3).make();

        Check.sentence("Terms", "a marked one is reached from itself");
        q = Examples.alone("alone");
        q.due(1).many(1);

        Check.sentence("Terms", "a marked one of it: one that is forbidden, or lost, does not count");
        q = new Asked("of it").events(2, 0b10).add(0, 3, PLANT, 0b010);
        q.edge(0, 0, 0, 1);
        q.due(2).make();
        q.tell(0, 1, FORBIDDEN, true);
        q.due(0).make();
        q.due(0).many(1);
        q.tell(0, 1, FORBIDDEN, false);
        q.edge(0, 1, 1, 2);
        q.due(0).make();
        q.due(0).many(1);

        Check.sentence("Terms", "by events that lead to ones of it: a way over a lost one does not count");
        q = new Asked("over a lost one").events(1, 0).add(0, 3, PLANT, 0b100).line(0, 0, 2);
        q.due(3).make();
        q.tell(0, 1, FORBIDDEN, true);
        q.due(0).make();
        q.due(1).many(1);
    }

    private static void goodIsGreatest() {
        Check.sentence("Terms", "GOOD is the greatest set: a ring of events that can't be forbidden stays");
        Asked q = new Asked("ring").events(1, 0b1).add(0, 3, PLANT, 0b001).line(0, 0, 2);
        q.edge(0, 2, 0, 0);
        q.due(3).make();
        q.due(3).many(1);
        q.due(-1).why();

        Check.sentence("Terms", "GOOD is the greatest set: what is lost in turns ends where nothing more must go");
        // 3 is a dead end; 2 must go there; 1 reaches the mark 5 only over 2; 0 goes to 4 and back, which is marked.
        q = new Asked("turns").events(4, 0b1000).add(0, 6, PLANT, 0b110000);
        q.edge(0, 0, 0, 1);
        q.edge(0, 1, 1, 2);
        q.edge(0, 2, 2, 5);
        q.edge(0, 2, 3, 3);
        q.edge(0, 0, 2, 4);
        q.edge(0, 4, 0, 0);
        q.due(2).make();
        q.due(6).many(0);
        q.due(3).many(1);
        q.due(1).why();
        q.due(0).whyEvent(0);
    }

    private static void lost() {
        Check.sentence("Terms", "Those that are not good are LOST");
        Asked q = Examples.press("press");
        q.due(2).make();
        q.due(4).many(0);
        q.due(2).many(1);
        q.due(1).why();
        q.tell(0, 2, FORBIDDEN, false);
        q.edge(0, 2, 0, 0);
        q.due(4).make();
        q.due(4).many(1);
        q.due(-1).why();
    }

    private static void supervisorStates() {
        Check.sentence("Terms", "THE SUPERVISOR, when the first product state is good");
        Asked q = new Asked("first").events(1, 0).add(0, 3, PLANT, 0b111).line(0, 0, 2);
        q.tell(0, 0, FORBIDDEN, true);
        q.due(0).make();
        q.hasNoSupervisor();
        q.due(2).many(1);
        q.tell(0, 0, FORBIDDEN, false);
        q.due(3).make();
        q.due(1).here();

        Check.sentence("Terms", "has the good ones that are reached by events that lead to good ones");
        q.tell(0, 1, FORBIDDEN, true);
        q.due(1).make();
        q.due(2).many(1);
        q.due(Check.ARGUMENT).part(2, 0);
    }

    private static void supervisorNumbers() {
        Check.sentence("Terms", "numbered 1, 2, .. as they are found: from 1, by the events' numbers");
        Asked q = new Asked("by events").events(12, 0).add(0, 4, PLANT, 0b1111);
        q.edge(0, 0, 11, 1);
        q.edge(0, 0, 0, 3);
        q.edge(0, 0, 5, 2);
        q.due(4).make();
        q.due(0).part(1, 0);
        q.due(3).part(2, 0);
        q.due(2).part(3, 0);
        q.due(1).part(4, 0);

        Check.sentence("Terms", "then those from 2, and so on");
        q = new Asked("then from 2").events(3, 0).add(0, 6, PLANT, 0b111111);
        q.edge(0, 0, 1, 5);
        q.edge(0, 0, 2, 4);
        q.edge(0, 5, 2, 3);
        q.edge(0, 4, 0, 2);
        q.edge(0, 3, 0, 1);
        q.edge(0, 4, 1, 5);
        q.due(6).make();
        int[] order = {0, 5, 4, 3, 2, 1};
        for (int i = 0; i < 6; i++) {
            q.due(order[i]).part(i + 1, 0);
        }
        q.due(2).leads(3, 1);

        Check.sentence("Terms", "numbered from the first good one on: lost ones have no number");
        q = new Asked("lost between").events(12, 0).add(0, 5, PLANT, 0b11111);
        q.tell(0, 1, FORBIDDEN, true);
        q.edge(0, 0, 0, 1);
        q.edge(0, 1, 0, 4);
        q.edge(0, 1, 11, 4);
        q.edge(0, 0, 1, 2);
        q.edge(0, 0, 2, 3);
        q.edge(0, 2, 0, 4);
        q.due(4).make();
        q.due(2).part(2, 0);
        q.due(3).part(3, 0);
        q.due(4).part(4, 0);
        for (int s = 1; s <= 4; s++) {
            q.due(2).says(s, 11);
            q.due(0).leads(s, 11);
        }
    }

    private static void supervisorVerdicts() {
        Check.sentence("Terms", "It ALLOWS the events that lead to good ones");
        Asked q = Examples.press("press");
        q.due(2).make();
        q.due(0).says(1, 2);
        q.due(0).says(2, 3);

        Check.sentence("Terms", "it DISABLES those others that the plants may do: to a lost one, or stopped by a rule");
        q.due(1).says(1, 0);
        q.add(1, 2, RULE, 0b11);
        q.edge(1, 1, 2, 1);
        q.due(1).make();
        q.due(1).says(1, 0);
        q.due(1).says(1, 2);
        q.due(2).says(1, 3);
    }

    // ---- "An object is used for at most 512 calls after it has been made"

    private static void callsUpToTheLast() {
        Check.sentence("What it is", "An object is used for at most 512 calls (a run that goes on to the last one)");
        Asked q = new Asked("512").events(2, 0).add(0, 2, PLANT, 0b01);
        q.edge(0, 0, 0, 1);
        q.edge(0, 1, 1, 0);
        q.due(2).make();
        int at = 0;
        while (q.calls() < Asked.PROMISED_CALLS) {
            q.due(2).act(at);
            at = 1 - at;
            if (q.calls() < Asked.PROMISED_CALLS) {
                q.due(at + 1).here();
            }
        }
        Check.due("calls made", 512, q::calls);

        Check.sentence("What it is", "An object is used for at most 512 calls (the dearest ones)");
        q = Examples.grid("grid", RULE);
        while (q.calls() + 1 < Asked.PROMISED_CALLS) {
            q.due(200).make();
            q.due(0).conflict(3, 3);
        }
        while (q.calls() < Asked.PROMISED_CALLS) {
            q.due(200).make();
        }
        Check.due("calls made", 512, q::calls);
    }

    /** The press after 511 calls, in the second state of its supervisor. */
    private static Asked almostUsed(String name) {
        Asked q = Examples.pressed(name);
        while (q.calls() < Asked.PROMISED_CALLS - 1) {
            q.due(2).here();
        }
        return q;
    }

    private static void lastCalls() {
        Check.sentence("What it is", "the 512th call is as good as the first");
        almostUsed("automaton").due(1).automaton(6, RULE);
        almostUsed("event").due(1).event(11, false);
        almostUsed("edge").done().edge(0, 2, 0, 2);
        almostUsed("edge").due(Check.STATE).edge(0, 0, 0, 2);
        almostUsed("tell").done().tell(0, 3, MARKED, true);
        almostUsed("clear").done().clear();
        almostUsed("make").due(2).make();
        almostUsed("says").due(1).says(1, 0);
        almostUsed("leads").due(2).leads(1, 2);
        almostUsed("part").due(3).part(2, 0);
        almostUsed("many").due(4).many(0);
        almostUsed("why").due(1).why();
        almostUsed("whyEvent").due(0).whyEvent(0);
        almostUsed("conflict").due(Check.ARGUMENT).conflict(0, 0);
        almostUsed("act").due(2).act(3);
        almostUsed("reset").done().reset();
        almostUsed("here").due(2).here();
        almostUsed("allowed").due(0b1000).allowed();
        almostUsed("home").due(1).home();
    }

    private static void laterCalls() {
        Check.sentence("What it is", "what later calls answer is free, but they end and throw what the face names");
        int[] numbers = {0, 1, 2, 3, 4, 5, 6, 7, 11, 12, -1, 200, 201, Integer.MIN_VALUE, Integer.MAX_VALUE};
        SafeControl x = new SafeControl();
        long drawn = 1;
        for (int i = 0; i < 20 * Asked.PROMISED_CALLS; i++) {
            int[] n = new int[5];
            for (int k = 0; k < 5; k++) {
                drawn = drawn * 6364136223846793005L + 1442695040888963407L;
                n[k] = (int) (drawn >>> 33);
            }
            int a = numbers[n[1] % (n[0] % 4 == 0 ? 15 : 5)];
            int b = numbers[n[2] % (n[0] % 4 == 1 ? 15 : 5)];
            int c = numbers[n[3] % (n[0] % 4 == 2 ? 15 : 5)];
            String got = Check.outcome(() -> later(x, n[4] % 400, a, b, c));
            Check.isTrue("call " + i + " throws nothing of its own, but " + got, !got.startsWith("throws.")
                    || got.equals(Check.STATE) || got.equals(Check.ARGUMENT) || got.equals(Check.INDEX));
        }
    }

    private static int later(SafeControl x, int which, int a, int b, int c) {
        switch (which % 17) {
            case 0: return x.automaton(a, b);
            case 1: return x.event(a, b % 2 == 0) ? 1 : 0;
            case 2: x.edge(a, b, c, c % 3); return 0;
            case 3: x.tell(a, b, c, which % 3 != 0); return 0;
            case 4: return x.make();
            case 5: return x.says(a, b);
            case 6: return x.leads(a, b);
            case 7: return x.part(a, b);
            case 8: return x.many(a);
            case 9: return x.why();
            case 10: return x.whyEvent(a);
            case 11: return x.conflict(a, b);
            case 12: return x.act(a);
            case 13: x.reset(); return x.here();
            case 14: return x.allowed();
            case 15: return x.home();
            default:
                if (which < 17) {
                    x.clear();
                }
                return x.make();
        }
    }

    private TermsBoundaryTest() {
    }
}
