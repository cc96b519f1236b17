import java.util.Map;
import java.util.TreeMap;

/** Long runs of drawn calls, the wrong ones among them, beside the word-by-word reading of the document. */
public final class OracleTest {
    private static final int RUNS = 1500;
    private static final int CALLS = 512;

    private final Map<String, Integer> seen = new TreeMap<>();
    private long seed;
    private int run;
    private int calls;
    private SafeControl program;
    private Oracle oracle;
    private int automata;
    private int[] sizes;
    private int states = 1;

    public static void main(String[] args) {
        OracleTest test = new OracleTest();
        for (int run = 0; run < RUNS && Check.wrong() < 20; run++) {
            test.oneRun(run);
        }
        test.sawEverything();
        Check.end();
    }

    /** A drawn test that never meets a kind of answer says nothing of it. */
    private void sawEverything() {
        for (String kind : new String[] {"make -2", "make -1", "make 0", "make +",
                "make over 40", "conflict -1", "conflict 0",
                "conflict +", "why -1", "why 0", "why +", "whyEvent 0", "whyEvent +", "whyEvent throws",
                "says 0", "says +", "says throws", "act 0", "act +", "home 0", "home +", "event 0", "event +"}) {
            Check.isTrue("seen at least twenty times: " + kind, seen.getOrDefault(kind, 0) >= 20);
        }
    }

    private void oneRun(int number) {
        run = number;
        seed = 77_777L * number + 13;
        calls = 0;
        program = new SafeControl();
        oracle = new Oracle();
        sizes = new int[4];
        automata = 0;
        if (number % 3 == 0) {
            conflictsOfRules();
        }
        while (calls < CALLS - 120 && Check.wrong() < 20) {
            if (chance(3)) {
                both("clear()", () -> done(program::clear), () -> done(oracle::clear));
                automata = 0;
            }
            build();
            for (int i = draw(4); i >= 0; i--) {
                make();
                ask(10 + draw(20));
                change();
            }
        }
    }

    /** One plant that marks little and rules that mark all: supervisors that are there, and at odds at times. */
    private void conflictsOfRules() {
        int declared = 3 + draw(3);
        for (int e = 0; e < declared; e++) {
            int event = e;
            both("event(" + e + ", true)", () -> program.event(event, true), () -> oracle.event(event, true));
        }
        for (int i = 0, n = 3 + draw(2); i < n; i++) {
            int kind = i == 0 ? 0 : 1;
            int states = i == 0 ? 3 + draw(4) : 1 + draw(3);
            both("automaton(" + states + ", " + kind + ")", () -> program.automaton(states, kind),
                    () -> oracle.automaton(states, kind));
            sizes[automata++] = states;
            tell(i, 0, 0, true);
            for (int s = 0; s < states; s++) {
                if (kind == 1 || s == states - 1) {
                    tell(i, s, 1, true);
                }
                for (int e = 0; e < declared; e++) {
                    if (draw(5) < 3) {
                        edge(i, s, e, draw(states));
                    }
                }
            }
        }
        for (int a = 1; a < automata; a++) {
            for (int b = 1; b < automata; b++) {
                conflict(a, b);
            }
        }
        both("clear()", () -> done(program::clear), () -> done(oracle::clear));
        automata = 0;
    }

    private void build() {
        int density = 1 + draw(4);
        int declared = 2 + draw(11);
        int uncontrollable = 2 + draw(5);
        for (int e = 0; e < declared; e++) {
            boolean controllable = !chance(uncontrollable);
            int event = e;
            both("event(" + e + ", " + controllable + ")", () -> program.event(event, controllable),
                    () -> oracle.event(event, controllable));
        }
        for (int i = 0, n = 1 + draw(4); i < n; i++) {
            addAutomaton(i == 0 ? 0 : draw(2), declared, density);
        }
    }

    private void addAutomaton(int kind, int declared, int density) {
        int states = 1 + draw(6);
        both("automaton(" + states + ", " + kind + ")", () -> program.automaton(states, kind),
                () -> oracle.automaton(states, kind));
        if (automata == 4) {
            return;
        }
        int number = automata++;
        sizes[number] = states;
        if (!chance(25)) {
            tell(number, draw(states), 0, true);
        }
        int unmarked = 1 + draw(12);
        int had = draw(1 << declared) | 1 << draw(declared);
        for (int s = 0; s < states; s++) {
            if (!chance(unmarked)) {
                tell(number, s, 1, true);
            }
            if (chance(40)) {
                tell(number, s, 2, true);
            }
            for (int e = 0; e < declared; e++) {
                if ((had >> e & 1) == 1 && draw(5) < density) {
                    edge(number, s, e, draw(states));
                }
            }
        }
    }

    private void change() {
        int number = draw(5) - (chance(9) ? 1 : 0);
        int states = number >= 0 && number < automata ? sizes[number] : 6;
        switch (draw(6)) {
            case 0 -> tell(number, draw(states + 1), draw(4), chance(2));
            case 1 -> tell(number, draw(states), draw(3), chance(2));
            case 2 -> edge(number, draw(states + 1), draw(13), draw(states + 1));
            case 3 -> edge(number, draw(states), draw(12), draw(states));
            case 4 -> {
                int event = draw(14) - 1;
                boolean controllable = chance(2);
                both("event(" + event + ", " + controllable + ")", () -> program.event(event, controllable),
                        () -> oracle.event(event, controllable));
            }
            default -> wrongAutomaton();
        }
    }

    private void wrongAutomaton() {
        int states = chance(2) ? 0 : 7;
        int kind = draw(4) - 1;
        both("automaton(" + states + ", " + kind + ")", () -> program.automaton(states, kind),
                () -> oracle.automaton(states, kind));
    }

    private void make() {
        both("make()", program::make, oracle::make);
        String count = Check.outcome(oracle::make);
        states = Math.max(1, Integer.parseInt(count));
        seen.merge("make over 40", states > 40 ? 1 : 0, Integer::sum);
    }

    private void ask(int times) {
        for (int i = 0; i < times && calls < CALLS; i++) {
            askOnce();
        }
    }

    private void askOnce() {
        int a = chance(12) ? draw(9) - 2 : 1 + draw(states + (chance(10) ? 2 : 0));
        int b = draw(14) - 1;
        int c = draw(6) - 1;
        switch (draw(14)) {
            case 0 -> both("says(" + a + ", " + b + ")", () -> program.says(a, b), () -> oracle.says(a, b));
            case 1 -> both("leads(" + a + ", " + b + ")", () -> program.leads(a, b), () -> oracle.leads(a, b));
            case 2 -> both("part(" + a + ", " + c + ")", () -> program.part(a, c), () -> oracle.part(a, c));
            case 3 -> both("many(" + c + ")", () -> program.many(c), () -> oracle.many(c));
            case 4 -> both("why()", program::why, oracle::why);
            case 5 -> both("whyEvent(" + c + ")", () -> program.whyEvent(c), () -> oracle.whyEvent(c));
            case 6 -> conflict(draw(5), c);
            case 7, 8, 9 -> both("act(" + b + ")", () -> program.act(b), () -> oracle.act(b));
            case 10 -> both("here()", program::here, oracle::here);
            case 11 -> both("allowed()", program::allowed, oracle::allowed);
            case 12 -> both("home()", program::home, oracle::home);
            default -> resetSometimes();
        }
    }

    private void resetSometimes() {
        if (chance(4)) {
            both("reset()", () -> done(program::reset), () -> done(oracle::reset));
        }
    }

    private void conflict(int a, int b) {
        both("conflict(" + a + ", " + b + ")", () -> program.conflict(a, b), () -> oracle.conflict(a, b));
    }

    private void tell(int automaton, int state, int what, boolean on) {
        both("tell(" + automaton + ", " + state + ", " + what + ", " + on + ")",
                () -> done(() -> program.tell(automaton, state, what, on)),
                () -> done(() -> oracle.tell(automaton, state, what, on)));
    }

    private void edge(int automaton, int from, int event, int to) {
        both("edge(" + automaton + ", " + from + ", " + event + ", " + to + ")",
                () -> done(() -> program.edge(automaton, from, event, to)),
                () -> done(() -> oracle.edge(automaton, from, event, to)));
    }

    private static Object done(Check.Deed deed) {
        deed.go();
        return "done";
    }

    private void both(String what, Check.Call ofProgram, Check.Call ofOracle) {
        if (calls == CALLS) {
            return;
        }
        calls++;
        String want = Check.outcome(ofOracle);
        Check.due("run " + run + ", call " + calls + ": " + what, want, Check.outcome(ofProgram));
        seen.merge(what.substring(0, what.indexOf('(')) + " " + kindOf(want), 1, Integer::sum);
    }

    private static String kindOf(String answer) {
        if (answer.startsWith("throws.")) {
            return "throws";
        }
        boolean above = answer.matches("[1-9][0-9]*") && !answer.equals("0");
        return above ? "+" : answer;
    }

    private boolean chance(int oneOf) {
        return draw(oneOf) == 0;
    }

    private int draw(int below) {
        seed = seed * 6364136223846793005L + 1442695040888963407L;
        return (int) ((seed >>> 33) % below);
    }
}
