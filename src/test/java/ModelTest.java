import java.lang.reflect.InvocationTargetException;
import java.lang.reflect.Method;
import java.util.ArrayList;
import java.util.List;
import java.util.Map;
import java.util.Random;
import java.util.TreeMap;

/** Runs of 512 calls, made up by a fixed seed: each answer or exception must be that of ModelParlour. */
public final class ModelTest {
    private static final int RUNS = 1500;
    private static final int CALLS = 512;
    private static final int ASKED_AT_ONCE = 212;
    private static final int[] EXTREMES = {-1, Integer.MIN_VALUE, Integer.MAX_VALUE, 1000, -1000, 60, 64, 100, -100, 0};
    /** Keys that meet at the deeper levels of a map: the first seven have one code. */
    private static final int[] SAME_CODES = {1, 360, 485, 570, 695, 716, 723, 58, 183, 30, 0, 256};

    /** What each argument stands for, by method: v value, p place or key, e element, k key, and so on. */
    private static final Map<String, String> ARGUMENTS = new TreeMap<>(Map.ofEntries(
            Map.entry("append", "ve"), Map.entry("set", "vpe"), Map.entry("cut", "v"), Map.entry("depth", "v"),
            Map.entry("open", "v"), Map.entry("appendTo", "ve"), Map.entry("setIn", "vpe"),
            Map.entry("makeLasting", "v"), Map.entry("isOpen", "v"), Map.entry("put", "vke"),
            Map.entry("without", "vk"), Map.entry("get", "vk"), Map.entry("getPlain", "vk"),
            Map.entry("levelOf", "vk"), Map.entry("size", "v"), Map.entry("nodes", "v"), Map.entry("shared", "vv"),
            Map.entry("areSame", "vv"), Map.entry("range", "fdm"), Map.entry("over", "swn"), Map.entry("at", "sp"),
            Map.entry("all", "s"), Map.entry("realised", "s"), Map.entry("chunks", "s"), Map.entry("collect", "s"),
            Map.entry("addReference", "elg"), Map.entry("begin", "t"), Map.entry("read", "tr"),
            Map.entry("write", "tre"), Map.entry("ensure", "tr"), Map.entry("add", "trn"), Map.entry("commit", "t"),
            Map.entry("end", "t"), Map.entry("sentBack", "t"), Map.entry("valueOf", "r"),
            Map.entry("valueByLog", "r"), Map.entry("history", "r"), Map.entry("logAt", "jq"),
            Map.entry("addAgent", "elgo"), Map.entry("send", "uan"), Map.entry("act", "a"),
            Map.entry("beginAnew", "ax"), Map.entry("errors", "a")));
    private static final String[] VALUES = {"vector", "append", "set", "cut", "depth", "open", "appendTo", "setIn",
        "makeLasting", "isOpen", "map", "put", "without", "get", "getPlain", "levelOf", "size", "nodes", "shared",
        "areSame", "made", "sharing"};
    private static final String[] SEQUENCES = {"range", "over", "at", "all", "realised", "chunks", "collect"};
    private static final String[] REFERENCES = {"addReference", "begin", "read", "write", "ensure", "add", "commit",
        "end", "sentBack", "valueOf", "valueByLog", "history", "moment", "logged", "logAt"};
    private static final String[] AGENTS = {"addAgent", "send", "act", "beginAnew", "errors"};

    private record Asked(Method method, Object[] args) {
    }

    private final Random random;
    private final Map<String, Integer> counts = new TreeMap<>();
    private final int elementReach;
    private final int keyReach;
    private final boolean steep;
    private final boolean hasty;
    /** The numbers of the values that the calls by these names have made. */
    private final Map<String, List<Integer>> numbers = new TreeMap<>();
    private final List<Integer> keys = new ArrayList<>();

    private ModelTest(long seed) {
        random = new Random(seed);
        elementReach = new int[] {3, 12, 120, 999}[random.nextInt(4)];
        keyReach = new int[] {20, 300, 1000}[random.nextInt(3)];
        steep = random.nextInt(8) == 0;
        hasty = random.nextInt(3) == 0;
    }

    public static void main(String[] args) throws ReflectiveOperationException {
        int runs = args.length > 0 ? Integer.parseInt(args[0]) : RUNS;
        Map<String, Integer> seen = new TreeMap<>();
        for (int run = 0; run < runs; run++) {
            new ModelTest(run).play(run, seen);
        }
        if (runs >= RUNS) {
            checkEachWasAnswered(seen);
        }
        for (int run = 0; run < 12; run++) {
            new ModelTest(run).playOn(run);
        }
        Check.finish();
    }

    /** A comparison in which a call is always refused, or never, would show little. */
    private static void checkEachWasAnswered(Map<String, Integer> seen) {
        for (Method method : PersistentParlour.class.getDeclaredMethods()) {
            if (java.lang.reflect.Modifier.isPublic(method.getModifiers())) {
                Check.holds(method.getName() + " answers", seen.getOrDefault(method.getName() + " answers", 0) > 100);
                for (Class<?> refused : method.getExceptionTypes()) {
                    String key = method.getName() + " " + refused.getName();
                    Check.holds(key, seen.getOrDefault(key, 0) > 10 || method.getName().equals("sharing"));
                }
            }
        }
    }

    private void play(int run, Map<String, Integer> seen) throws ReflectiveOperationException {
        PersistentParlour real = new PersistentParlour();
        ModelParlour model = new ModelParlour();
        List<String> story = new ArrayList<>();
        List<Asked> calls = new ArrayList<>();
        int part = run % 6;
        for (int i = 0; i < CALLS; i++) {
            String name = pickName(part);
            Method method = methodNamed(name);
            Object[] args = pickArguments(method);
            Object got = answer(real, method, args);
            Object due = answer(model, ModelParlour.class.getMethod(name, method.getParameterTypes()), args);
            String call = name + java.util.Arrays.toString(args);
            calls.add(new Asked(method, args));
            story.add(call + " -> " + due);
            Check.same("run " + run + ", call " + i + ", " + call, got, due);
            if (!got.equals(due)) {
                System.out.println(String.join("\n", story));
                return;
            }
            String kind = got instanceof Class ? ((Class<?>) got).getName() : "answers";
            seen.merge(name + " " + kind, 1, Integer::sum);
            if (kind.equals("answers")) {
                counts.merge(name, 1, Integer::sum);
                remember(name, got, args);
            }
        }
        if (run % 10 < 1) {
            checkAllOf(run, calls);
        }
    }

    /** Behind its 512 calls the answers are free, but the machine must not throw even then. */
    private void playOn(int run) throws ReflectiveOperationException {
        PersistentParlour real = new PersistentParlour();
        for (int i = 0; i < 40 * CALLS; i++) {
            Method method = methodNamed(pickName(run % 6));
            Object[] args = pickArguments(method);
            Object got = answer(real, method, args);
            boolean isRefused = got instanceof Class;
            Check.holds(method.getName() + " " + got, isRefused
                    ? List.of(method.getExceptionTypes()).contains(got) : !(got instanceof String));
            if (!isRefused) {
                counts.merge(method.getName(), 1, Integer::sum);
                remember(method.getName(), got, args);
            }
        }
    }

    private void remember(String name, Object got, Object[] args) {
        if (name.equals("put")) {
            keys.add((Integer) args[1]);
        }
        if (got instanceof Integer) {
            numbers.computeIfAbsent(name, x -> new ArrayList<>()).add((Integer) got);
        }
    }

    private String pickName(int part) {
        int choice = part == 0 ? random.nextInt(4) : part == 1 ? 0 : part == 2 ? 1 : part == 3 ? 2
                : part == 4 ? 2 + random.nextInt(2) : random.nextInt(2);
        String[] names = new String[][] {VALUES, SEQUENCES, REFERENCES, AGENTS}[choice];
        String name = names[random.nextInt(names.length)];
        boolean adds = name.equals("range") || name.equals("addReference") || name.equals("addAgent");
        boolean begins = adds || !hasty && (name.equals("vector") || name.equals("map"));
        return begins && counts.getOrDefault(name, 0) >= 2 && random.nextInt(8) != 0 ? pickName(part) : name;
    }

    private static Method methodNamed(String name) {
        for (Method method : PersistentParlour.class.getMethods()) {
            if (method.getName().equals(name) && method.getDeclaringClass() == PersistentParlour.class) {
                return method;
            }
        }
        throw new IllegalStateException("no method " + name);
    }

    private Object[] pickArguments(Method method) {
        String kinds = ARGUMENTS.getOrDefault(method.getName(), "");
        Object[] args = new Object[method.getParameterCount()];
        for (int i = 0; i < args.length; i++) {
            char kind = kinds.charAt(i);
            boolean isChar = method.getParameterTypes()[i] == char.class;
            if (isChar) {
                args[i] = kind != 'w' ? pickFrom("ffccx") : pickFrom(steep ? "aaaaaak" : "aaddkkktttx");
            } else if (random.nextInt(60) == 0) {
                args[i] = EXTREMES[random.nextInt(EXTREMES.length)];
            } else {
                args[i] = kind == 'v' && random.nextInt(8) != 0 ? valueFor(method.getName()) : pick(kind);
            }
        }
        return args;
    }

    private int valueFor(String name) {
        switch (name) {
            case "append": case "set": case "cut": case "open":
                return oneOf("vector", "append", "set", "cut", "makeLasting", "collect");
            case "appendTo": case "setIn": case "makeLasting":
                return oneOf("open");
            case "put": case "without": case "levelOf":
                return oneOf("map", "put", "without");
            default:
                return pick('v');
        }
    }

    private int oneOf(String... names) {
        List<Integer> found = new ArrayList<>();
        for (String name : names) {
            found.addAll(numbers.getOrDefault(name, List.of()));
        }
        found.sort(null);
        return found.isEmpty() ? 0 : found.get(recent(found.size() - 1, found.size()));
    }

    private int recent(int last, int count) {
        int back = random.nextInt(random.nextInt(4) == 0 ? count : Math.min(count, 3));
        return last - back;
    }

    private char pickFrom(String signs) {
        return signs.charAt(random.nextInt(signs.length()));
    }

    private int pick(char kind) {
        switch (kind) {
            case 'v':
                return recent(made("vector", "append", "set", "cut", "open", "makeLasting", "map", "put", "without", "collect"));
            case 's':
                int last = made("range", "over") - 1;
                return steep && random.nextInt(4) != 0 ? last : recent(last + 1);
            case 'r':
                return random.nextInt(made("addReference") + 1);
            case 'a':
                return random.nextInt(made("addAgent") + 1);
            case 'j':
                return random.nextInt(40);
            case 'q':
                return random.nextInt(5);
            case 't':
                return random.nextInt(20) == 0 ? 3 : random.nextInt(3);
            case 'u':
                return random.nextInt(5) - 1;
            case 'p':
                return random.nextInt(random.nextBoolean() ? 8 : 26);
            case 'k':
                if (!keys.isEmpty() && random.nextBoolean()) {
                    return keys.get(random.nextInt(keys.size()));
                }
                return keyReach < 1000 ? random.nextInt(keyReach) : sameCode();
            case 'e':
                return within(elementReach);
            case 'x':
                return within(2);
            case 'l':
                return -random.nextInt(2 * elementReach);
            case 'g':
                return random.nextInt(2 * elementReach);
            case 'f':
                return within(random.nextBoolean() ? 9 : 100);
            case 'd':
                return within(10);
            case 'm':
                return random.nextInt(26);
            default:
                return steep ? 99 - random.nextInt(4) : random.nextInt(3) == 0 ? within(99) : within(5);
        }
    }

    private int within(int reach) {
        return random.nextInt(2 * reach + 1) - reach;
    }

    private int sameCode() {
        return SAME_CODES[random.nextInt(SAME_CODES.length)];
    }

    private int made(String... names) {
        int sum = 0;
        for (String name : names) {
            sum += counts.getOrDefault(name, 0);
        }
        return sum;
    }

    private int recent(int count) {
        int back = random.nextInt(random.nextInt(4) == 0 ? 60 : 4);
        return Math.max(count - back, random.nextInt(6));
    }

    private static Object answer(Object target, Method method, Object[] args) throws ReflectiveOperationException {
        try {
            return method.invoke(target, args);
        } catch (InvocationTargetException e) {
            return target instanceof PersistentParlour ? Check.thrown(e.getCause()) : e.getCause().getClass();
        }
    }

    /** What no call has asked for must be the same, too: each object is asked as long as its 512 calls last. */
    private static void checkAllOf(int run, List<Asked> calls) throws ReflectiveOperationException {
        List<Asked> begun = calls.subList(0, CALLS - ASKED_AT_ONCE);
        ModelParlour model = new ModelParlour();
        for (Asked call : begun) {
            answer(model, modelMethod(call.method), call.args);
        }
        List<Asked> questions = questions();
        for (int i = 0; i < questions.size(); i += ASKED_AT_ONCE) {
            PersistentParlour real = new PersistentParlour();
            for (Asked call : begun) {
                answer(real, call.method, call.args);
            }
            for (Asked call : questions.subList(i, Math.min(i + ASKED_AT_ONCE, questions.size()))) {
                String what = "run " + run + ", " + call.method.getName() + java.util.Arrays.toString(call.args);
                Check.same(what, answer(real, call.method, call.args), answer(model, modelMethod(call.method), call.args));
            }
        }
    }

    private static Method modelMethod(Method method) throws NoSuchMethodException {
        return ModelParlour.class.getMethod(method.getName(), method.getParameterTypes());
    }

    private static List<Asked> questions() {
        List<Asked> questions = new ArrayList<>();
        String[] byNumber = {"size", "nodes", "isOpen", "depth", "realised", "chunks", "valueOf", "valueByLog",
            "history", "errors", "sentBack", "all"};
        for (String name : byNumber) {
            for (int i = 0; i < 60; i++) {
                questions.add(new Asked(methodNamed(name), new Object[] {i}));
            }
        }
        for (int i = 0; i < 3600; i++) {
            int key = i % 60 < 48 ? i % 60 : SAME_CODES[i % 12];
            questions.add(new Asked(methodNamed("get"), new Object[] {i / 60, key}));
            questions.add(new Asked(methodNamed("getPlain"), new Object[] {i / 60, key}));
            questions.add(new Asked(methodNamed("shared"), new Object[] {i / 60, i % 60}));
        }
        return questions;
    }
}
