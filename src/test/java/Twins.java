import java.util.ArrayList;
import java.util.List;
import java.util.Set;
import java.util.TreeSet;

/**
 * Two objects with the same calls behind them, but that one of them was given a refused call, too:
 * everything that can be asked of both, and done with both, must come out alike.
 */
final class Twins {
    private static final Set<String> VALUE_MAKERS = Set.of("vector", "append", "set", "cut", "open", "makeLasting", "map",
            "put", "without", "collect");
    private static final int[] PLACES = {0, 1, 3, 4, 5, 15, 16, 17, 62, 63, 64};

    private final List<String> done;
    private final String refused;
    private String difference = "";

    private Twins(List<String> done, String refused) {
        this.done = done;
        this.refused = refused;
    }

    /** An empty text if there is none. */
    static String difference(List<String> done, String refused) {
        Twins twins = new Twins(done, refused);
        twins.askAll();
        return twins.difference;
    }

    private void askAll() {
        List<Integer> values = fewOf(count(VALUE_MAKERS));
        int sequences = count(Set.of("range", "over"));
        int references = count(Set.of("addReference"));
        int agents = count(Set.of("addAgent"));
        compare(questions(values, sequences, references, agents));
        compare(List.of("vector()", "map()", "range(0, 0, 0)", "over(0, 't', 0)", "addReference(0, 0, 0)",
                "addAgent(0, 0, 0, 'f')", "begin(0)", "begin(1)", "begin(2)"));
        changeValues(values);
        changeSequences(sequences);
        runTransactions(references, agents);
        runAgents(agents);
    }

    private int count(Set<String> names) {
        int count = 0;
        for (String call : done) {
            count += names.contains(Calls.nameOf(call)) ? 1 : 0;
        }
        return count;
    }

    /** With many values, the first and the last ones: a refused call names one of these in the tests. */
    private static List<Integer> fewOf(int count) {
        List<Integer> few = new ArrayList<>();
        for (int i = 0; i < count; i++) {
            if (i < 5 || i >= count - 7) {
                few.add(i);
            }
        }
        return few;
    }

    private Set<Integer> keys() {
        Set<Integer> keys = new TreeSet<>();
        List<String> all = new ArrayList<>(done);
        all.add(refused);
        for (String call : all) {
            if (Set.of("put", "without").contains(Calls.nameOf(call)) && keys.size() < 12) {
                keys.add(Integer.parseInt(Calls.argumentsOf(call)[1].replace("MAX", "-2").replace("MIN", "-3")));
            }
        }
        return keys;
    }

    private List<String> questions(List<Integer> values, int sequences, int references, int agents) {
        List<String> all = new ArrayList<>(List.of("made()", "moment()", "logged()", "sharing()"));
        each(all, List.of(0, 1, 2), "sentBack(#)");
        each(all, values, "size(#)", "nodes(#)", "isOpen(#)", "depth(#)");
        for (int value : values) {
            for (int place : PLACES) {
                all.add("get(" + value + ", " + place + ")");
                all.add("getPlain(" + value + ", " + place + ")");
            }
            for (int key : keys()) {
                all.add("get(" + value + ", " + key + ")");
                all.add("getPlain(" + value + ", " + key + ")");
                all.add("levelOf(" + value + ", " + key + ")");
            }
            for (int other : values) {
                if (other > value) {
                    all.add("shared(" + value + ", " + other + ")");
                    all.add("areSame(" + value + ", " + other + ")");
                }
            }
        }
        each(all, upTo(sequences), "realised(#)", "chunks(#)");
        each(all, upTo(references), "valueOf(#)", "valueByLog(#)", "history(#)");
        each(all, upTo(agents), "errors(#)");
        each(all, upTo(Math.min(count(Set.of("write", "add")), 12)), "logAt(#, 0)", "logAt(#, 1)", "logAt(#, 2)", "logAt(#, 3)");
        return all;
    }

    private static List<Integer> upTo(int count) {
        List<Integer> all = new ArrayList<>();
        for (int i = 0; i < count; i++) {
            all.add(i);
        }
        return all;
    }

    private static void each(List<String> all, List<Integer> numbers, String... calls) {
        for (int number : numbers) {
            for (String call : calls) {
                all.add(call.replace("#", Integer.toString(number)));
            }
        }
    }

    private static List<String> list(List<Integer> numbers, String... calls) {
        List<String> all = new ArrayList<>();
        each(all, numbers, calls);
        return all;
    }

    private void changeValues(List<Integer> values) {
        compare(list(values, "append(#, 1)", "set(#, 0, 998)", "made()"));
        compare(list(values, "cut(#)", "open(#)", "made()"));
        compare(list(values, "setIn(#, 0, 997)", "appendTo(#, 1)", "setIn(#, 4, 996)", "setIn(#, 16, 995)", "nodes(#)"));
        compare(list(values, "makeLasting(#)", "size(#)"));
        compare(list(values, "put(#, 0, 1)", "put(#, 999, 2)", "without(#, 0)", "made()"));
    }

    private void changeSequences(int sequences) {
        List<String> asked = list(upTo(sequences), "realised(#)", "chunks(#)");
        for (int i = sequences - 1; i >= 0; i--) {
            compare(joined(List.of("at(" + i + ", 0)"), asked));
        }
        for (int i = 0; i < sequences; i++) {
            compare(joined(List.of("all(" + i + ")", "collect(" + i + ")", "made()"), asked));
        }
    }

    private void runTransactions(int references, int agents) {
        List<Integer> transactions = List.of(0, 1, 2);
        List<String> commits = list(transactions, "commit(#)", "moment()", "logged()");
        List<String> sent = list(upTo(agents), "send(-1, #, 0)", "act(#)", "act(#)", "act(#)");
        List<String> backs = list(transactions, "sentBack(#)");
        compare(joined(commits, joined(list(upTo(references), "valueOf(#)", "history(#)"), sent)));
        compare(list(transactions, "end(#)"));
        for (int reference : upTo(references)) {
            for (String way : List.of("read(#, R)", "write(#, R, 7)", "ensure(#, R)", "add(#, R, 1)", "add(#, R, -99)")) {
                compare(joined(list(transactions, way.replace("R", Integer.toString(reference))), backs));
            }
            compare(joined(list(List.of(2, 1, 0), "write(#, " + reference + ", 3)"), joined(backs, commits)));
        }
    }

    private void runAgents(int agents) {
        for (int agent : upTo(agents)) {
            List<String> acts = List.of(Story.repeated("act(" + agent + ")", 1, 13));
            compare(joined(List.of("beginAnew(" + agent + ", 0)"), joined(acts, List.of("errors(" + agent + ")"))));
            compare(joined(acts, List.of("send(-1, " + agent + ", 1)", "errors(" + agent + ")")));
        }
    }

    private static List<String> joined(List<String> first, List<String> second) {
        List<String> all = new ArrayList<>(first);
        all.addAll(second);
        return all;
    }

    /** Makes the calls on two objects; what goes beyond their 512 calls, on the next two. */
    private void compare(List<String> asked) {
        Calls touched = null;
        Calls untouched = null;
        for (String call : asked) {
            if (!difference.isEmpty()) {
                return;
            }
            if (touched == null || touched.left() == 0) {
                touched = again();
                untouched = again();
                if (touched.left() < 2) {
                    return;
                }
                touched.make(refused);
            }
            Object got = touched.make(call);
            Object due = untouched.make(call);
            if (!got.equals(due)) {
                difference = call + " answers " + got + " behind it, " + due + " without it";
            }
        }
    }

    private Calls again() {
        Calls calls = new Calls();
        for (String call : done) {
            calls.make(call);
        }
        return calls;
    }
}
