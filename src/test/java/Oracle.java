import java.util.ArrayList;
import java.util.Collections;
import java.util.HashMap;
import java.util.LinkedHashSet;
import java.util.List;
import java.util.Map;
import java.util.Set;
import java.util.TreeMap;

/**
 * The document read word by word, without a thought for speed or room: the tests
 * set the program's answers beside this one's. A product state is the list of
 * the states of the automata that go in step.
 */
final class Oracle {
    private static final int MOST = 200;

    /** One supervisor, or the reason why there is none. */
    private static final class Made {
        int code;
        List<Integer> who;
        Set<List<Integer>> reached;
        Set<List<Integer>> good;
        List<Integer> word;
        final List<List<Integer>> states = new ArrayList<>();
    }

    private final List<Integer> sizes = new ArrayList<>();
    private final List<Integer> kinds = new ArrayList<>();
    private final List<Integer> initial = new ArrayList<>();
    private final List<Set<Integer>> marked = new ArrayList<>();
    private final List<Set<Integer>> forbidden = new ArrayList<>();
    private final List<Map<List<Integer>, Integer>> edges = new ArrayList<>();
    private final Map<Integer, Boolean> events = new TreeMap<>();
    private Made made;
    private int place;

    int automaton(int states, int kind) {
        argument(states >= 1 && states <= 6 && (kind == 0 || kind == 1));
        state(sizes.size() < 4);
        made = null;
        sizes.add(states);
        kinds.add(kind);
        initial.add(null);
        marked.add(new LinkedHashSet<>());
        forbidden.add(new LinkedHashSet<>());
        edges.add(new HashMap<>());
        return sizes.size() - 1;
    }

    boolean event(int event, boolean controllable) {
        argument(event >= 0 && event <= 11);
        if (events.containsKey(event)) {
            state(events.get(event) == controllable);
            return false;
        }
        made = null;
        events.put(event, controllable);
        return true;
    }

    void edge(int automaton, int from, int event, int to) {
        argument(isState(automaton, from) && isState(automaton, to) && event >= 0 && event <= 11);
        state(events.containsKey(event) && !edges.get(automaton).containsKey(List.of(from, event)));
        made = null;
        edges.get(automaton).put(List.of(from, event), to);
    }

    void tell(int automaton, int s, int what, boolean on) {
        argument(isState(automaton, s) && what >= 0 && what <= 2);
        made = null;
        if (what == 0) {
            if (on) {
                initial.set(automaton, s);
            } else if (initial.get(automaton) != null && initial.get(automaton) == s) {
                initial.set(automaton, null);
            }
            return;
        }
        Set<Integer> set = (what == 1 ? marked : forbidden).get(automaton);
        if (on) {
            set.add(s);
        } else {
            set.remove(s);
        }
    }

    void clear() {
        made = null;
        sizes.clear();
        kinds.clear();
        initial.clear();
        marked.clear();
        forbidden.clear();
        edges.clear();
        events.clear();
    }

    int make() {
        List<Integer> all = new ArrayList<>();
        for (int i = 0; i < sizes.size(); i++) {
            all.add(i);
        }
        made = synthesize(all);
        int answer = made.code;
        if (answer < 0) {
            made = null;
        }
        place = 1;
        return answer;
    }

    int says(int s, int event) {
        supervisor();
        argument(s >= 1 && s <= made.states.size() && event >= 0 && event <= 11);
        return verdict(s, event);
    }

    int leads(int s, int event) {
        return says(s, event) == 0 ? target(made, s, event) : 0;
    }

    int part(int s, int automaton) {
        supervisor();
        argument(s >= 1 && s <= made.states.size() && automaton >= 0 && automaton < sizes.size());
        return made.states.get(s - 1).get(automaton);
    }

    int many(int what) {
        argument(what == 0 || what == 1);
        state(made != null);
        return what == 0 ? made.reached.size() : made.good.size();
    }

    int why() {
        state(made != null);
        return made.word == null ? -1 : made.word.size();
    }

    int whyEvent(int i) {
        state(made != null);
        if (made.word == null || i < 0 || i >= made.word.size()) {
            throw new IndexOutOfBoundsException();
        }
        return made.word.get(i);
    }

    int conflict(int a, int b) {
        argument(isRule(a) && isRule(b));
        Made ma = synthesize(plantsAnd(a));
        Made mb = synthesize(plantsAnd(b));
        if (ma.code <= 0 || mb.code <= 0) {
            return -1;
        }
        Map<List<Integer>, Set<List<Integer>>> next = new HashMap<>();
        List<List<Integer>> found = new ArrayList<>();
        found.add(List.of(1, 1));
        for (int i = 0; i < found.size(); i++) {
            List<Integer> pair = found.get(i);
            next.put(pair, new LinkedHashSet<>());
            for (int e = 0; e < 12; e++) {
                int ta = target(ma, pair.get(0), e);
                int tb = target(mb, pair.get(1), e);
                if (ta != 0 && tb != 0) {
                    next.get(pair).add(List.of(ta, tb));
                    if (!found.contains(List.of(ta, tb))) {
                        found.add(List.of(ta, tb));
                    }
                }
            }
        }
        if (found.size() > MOST) {
            return -1;
        }
        Set<List<Integer>> live = new LinkedHashSet<>();
        for (List<Integer> pair : found) {
            if (isMarked(ma.who, ma.states.get(pair.get(0) - 1)) && isMarked(mb.who, mb.states.get(pair.get(1) - 1))) {
                live.add(pair);
            }
        }
        growBackwards(live, found, next);
        return live.size() == found.size() ? 0 : 1;
    }

    int act(int event) {
        supervisor();
        argument(event >= 0 && event <= 11);
        int verdict = verdict(place, event);
        if (verdict == 0) {
            place = target(made, place, event);
        }
        return verdict == 0 ? 2 : verdict == 1 ? 1 : 0;
    }

    void reset() {
        supervisor();
        place = 1;
    }

    int here() {
        supervisor();
        return place;
    }

    int allowed() {
        supervisor();
        int bits = 0;
        for (int e = 0; e < 12; e++) {
            bits += verdict(place, e) == 0 ? 1 << e : 0;
        }
        return bits;
    }

    int home() {
        supervisor();
        Set<Integer> level = new LinkedHashSet<>(List.of(place));
        for (int length = 0; length <= MOST; length++) {
            Set<Integer> next = new LinkedHashSet<>();
            for (int s : level) {
                if (isMarked(made.who, made.states.get(s - 1))) {
                    return length;
                }
                for (int e = 0; e < 12; e++) {
                    if (target(made, s, e) != 0) {
                        next.add(target(made, s, e));
                    }
                }
            }
            level = next;
        }
        throw new AssertionError("no way home");
    }

    // ---- what the terms say

    private Made synthesize(List<Integer> who) {
        Made m = new Made();
        m.who = who;
        List<Integer> first = new ArrayList<>();
        boolean plant = false;
        for (int i : who) {
            if (initial.get(i) == null) {
                m.code = -2;
                return m;
            }
            plant |= kinds.get(i) == 0;
            first.add(initial.get(i));
        }
        if (!plant) {
            m.code = -2;
            return m;
        }
        List<List<Integer>> found = closure(who, first, null);
        if (found.size() > MOST) {
            m.code = -1;
            return m;
        }
        m.reached = new LinkedHashSet<>(found);
        m.good = m.reached.size() <= 10 ? goodByAllSubsets(who, found) : goodByTakingOut(who, found);
        m.word = lostWord(who, first, m);
        if (m.good.contains(first)) {
            m.states.addAll(closure(who, first, m.good));
        }
        m.code = m.states.size();
        return m;
    }

    private List<List<Integer>> closure(List<Integer> who, List<Integer> first, Set<List<Integer>> within) {
        Set<List<Integer>> seen = new LinkedHashSet<>(List.of(first));
        List<List<Integer>> found = new ArrayList<>(seen);
        for (int i = 0; i < found.size(); i++) {
            for (int e = 0; e < 12; e++) {
                List<Integer> to = next(who, found.get(i), e);
                if (to != null && (within == null || within.contains(to)) && seen.add(to)) {
                    found.add(to);
                }
            }
        }
        return found;
    }

    /** The union of all sets that are as the document asks. */
    private Set<List<Integer>> goodByAllSubsets(List<Integer> who, List<List<Integer>> found) {
        Set<List<Integer>> union = new LinkedHashSet<>();
        for (int bits = 0; bits < 1 << found.size(); bits++) {
            Set<List<Integer>> set = new LinkedHashSet<>();
            for (int i = 0; i < found.size(); i++) {
                if ((bits >> i & 1) == 1) {
                    set.add(found.get(i));
                }
            }
            if (!union.containsAll(set) && isAsAsked(who, set)) {
                union.addAll(set);
            }
        }
        return union;
    }

    private boolean isAsAsked(List<Integer> who, Set<List<Integer>> set) {
        for (List<Integer> s : set) {
            if (isForbidden(who, s) || !holdsUncontrollable(who, s, set)) {
                return false;
            }
        }
        return reaching(who, set).size() == set.size();
    }

    private Set<List<Integer>> goodByTakingOut(List<Integer> who, List<List<Integer>> found) {
        Set<List<Integer>> set = new LinkedHashSet<>();
        for (List<Integer> s : found) {
            if (!isForbidden(who, s)) {
                set.add(s);
            }
        }
        while (true) {
            Set<List<Integer>> smaller = reaching(who, set);
            smaller.removeIf(s -> !holdsUncontrollable(who, s, set));
            if (smaller.size() == set.size()) {
                return set;
            }
            set.retainAll(smaller);
        }
    }

    private boolean holdsUncontrollable(List<Integer> who, List<Integer> s, Set<List<Integer>> set) {
        for (int e : events.keySet()) {
            if (!events.get(e) && may(who, s, e)) {
                List<Integer> to = next(who, s, e);
                if (to == null || !set.contains(to)) {
                    return false;
                }
            }
        }
        return true;
    }

    /** Those from which a marked one is reached inside the set. */
    private Set<List<Integer>> reaching(List<Integer> who, Set<List<Integer>> set) {
        Map<List<Integer>, Set<List<Integer>>> next = new HashMap<>();
        Set<List<Integer>> live = new LinkedHashSet<>();
        for (List<Integer> s : set) {
            next.put(s, new LinkedHashSet<>());
            for (int e = 0; e < 12; e++) {
                List<Integer> to = next(who, s, e);
                if (to != null && set.contains(to)) {
                    next.get(s).add(to);
                }
            }
            if (isMarked(who, s)) {
                live.add(s);
            }
        }
        growBackwards(live, set, next);
        return live;
    }

    private static void growBackwards(Set<List<Integer>> live, Iterable<List<Integer>> all,
            Map<List<Integer>, Set<List<Integer>>> next) {
        boolean grown = true;
        while (grown) {
            grown = false;
            for (List<Integer> s : all) {
                if (!live.contains(s) && !Collections.disjoint(next.get(s), live)) {
                    live.add(s);
                    grown = true;
                }
            }
        }
    }

    /** Goes through the words by length and then by order; one word a product state is enough. */
    private List<Integer> lostWord(List<Integer> who, List<Integer> first, Made m) {
        List<List<Integer>> words = new ArrayList<>();
        words.add(new ArrayList<>());
        Set<List<Integer>> seen = new LinkedHashSet<>();
        while (!words.isEmpty()) {
            List<List<Integer>> longer = new ArrayList<>();
            for (List<Integer> word : words) {
                List<Integer> end = first;
                for (int e : word) {
                    end = next(who, end, e);
                }
                if (!m.good.contains(end)) {
                    return word;
                }
                if (seen.add(end)) {
                    for (int e = 0; e < 12; e++) {
                        if (next(who, end, e) != null) {
                            List<Integer> more = new ArrayList<>(word);
                            more.add(e);
                            longer.add(more);
                        }
                    }
                }
            }
            words = longer;
        }
        return null;
    }

    private boolean has(int automaton, int event) {
        for (List<Integer> key : edges.get(automaton).keySet()) {
            if (key.get(1) == event) {
                return true;
            }
        }
        return false;
    }

    private boolean may(List<Integer> who, List<Integer> s, int event) {
        boolean some = false;
        for (int k = 0; k < who.size(); k++) {
            int i = who.get(k);
            if (kinds.get(i) == 0 && has(i, event)) {
                some = true;
                if (!edges.get(i).containsKey(List.of(s.get(k), event))) {
                    return false;
                }
            }
        }
        return some;
    }

    private List<Integer> next(List<Integer> who, List<Integer> s, int event) {
        if (!may(who, s, event)) {
            return null;
        }
        List<Integer> to = new ArrayList<>();
        for (int k = 0; k < who.size(); k++) {
            int i = who.get(k);
            if (!has(i, event)) {
                to.add(s.get(k));
            } else if (edges.get(i).containsKey(List.of(s.get(k), event))) {
                to.add(edges.get(i).get(List.of(s.get(k), event)));
            } else {
                return null;
            }
        }
        return to;
    }

    private boolean isMarked(List<Integer> who, List<Integer> s) {
        for (int k = 0; k < who.size(); k++) {
            if (!marked.get(who.get(k)).contains(s.get(k))) {
                return false;
            }
        }
        return true;
    }

    private boolean isForbidden(List<Integer> who, List<Integer> s) {
        for (int k = 0; k < who.size(); k++) {
            if (forbidden.get(who.get(k)).contains(s.get(k))) {
                return true;
            }
        }
        return false;
    }

    private int verdict(int s, int event) {
        if (target(made, s, event) != 0) {
            return 0;
        }
        return may(made.who, made.states.get(s - 1), event) ? 1 : 2;
    }

    private int target(Made m, int s, int event) {
        List<Integer> to = next(m.who, m.states.get(s - 1), event);
        return to == null ? 0 : m.states.indexOf(to) + 1;
    }

    private List<Integer> plantsAnd(int rule) {
        List<Integer> who = new ArrayList<>();
        for (int i = 0; i < sizes.size(); i++) {
            if (kinds.get(i) == 0 || i == rule) {
                who.add(i);
            }
        }
        return who;
    }

    private boolean isState(int automaton, int s) {
        return automaton >= 0 && automaton < sizes.size() && s >= 0 && s < sizes.get(automaton);
    }

    private boolean isRule(int automaton) {
        return automaton >= 0 && automaton < sizes.size() && kinds.get(automaton) == 1;
    }

    private void supervisor() {
        state(made != null && !made.states.isEmpty());
    }

    private static void argument(boolean holds) {
        if (!holds) {
            throw new IllegalArgumentException();
        }
    }

    private static void state(boolean holds) {
        if (!holds) {
            throw new IllegalStateException();
        }
    }
}
