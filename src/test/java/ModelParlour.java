import java.util.ArrayList;
import java.util.HashMap;
import java.util.HashSet;
import java.util.LinkedHashMap;
import java.util.List;
import java.util.Map;
import java.util.NoSuchElementException;
import java.util.Set;
import java.util.TreeMap;

/**
 * The document once more, by other ways: a value is its plain content, and its nodes are found by
 * comparing what lies below each position with what lay there before; chunks are realised one by
 * one; the history and the log are lists.
 */
public final class ModelParlour {
    private static final class Content {
        char kind;
        List<Integer> elements = new ArrayList<>();
        Map<Integer, Integer> pairs = new LinkedHashMap<>();
        Map<String, Integer> ids = new HashMap<>();
        Set<Integer> own = new HashSet<>();

        Content(char kind) {
            this.kind = kind;
        }

        boolean isVector() {
            return kind == 'v' || kind == 'o';
        }
    }

    private static final class Row {
        int source;
        char way;
        int number;
        int from;
        int many;
        List<List<Integer>> realised = new ArrayList<>();
    }

    private static final class Ref {
        int value;
        int first;
        int least;
        int greatest;
        int limit = 2;
        List<int[]> past = new ArrayList<>();
    }

    private static final class Tx {
        boolean open;
        int point;
        int age;
        int backs;
        Map<Integer, Integer> wrote = new TreeMap<>();
        Map<Integer, Integer> adds = new TreeMap<>();
        Set<Integer> ensured = new HashSet<>();
        List<int[]> sent = new ArrayList<>();

        void clear() {
            wrote.clear();
            adds.clear();
            ensured.clear();
            sent.clear();
        }
    }

    private static final class Worker {
        int value;
        int least;
        int greatest;
        char mode;
        boolean failed;
        int errors;
        List<Integer> row = new ArrayList<>();
    }

    private final List<Content> values = new ArrayList<>();
    private int nodesMade = 0;
    private final List<Row> rows = new ArrayList<>();
    private final List<Ref> refs = new ArrayList<>();
    private final Tx[] txs = {new Tx(), new Tx(), new Tx()};
    private int ages = 0;
    private int now = 0;
    private final List<int[]> log = new ArrayList<>();
    private final List<Worker> workers = new ArrayList<>();

    // ---- nodes by positions

    private static int depthOf(int size) {
        return size > 16 ? 3 : size > 4 ? 2 : 1;
    }

    private static int codeOf(int key) {
        return (37 * key ^ key / 8) % 256;
    }

    /** What lies in and below each position where there is a node. */
    private static Map<String, String> positions(Content content) {
        Map<String, String> all = new HashMap<>();
        if (content.isVector()) {
            int size = content.elements.size();
            int width = 4;
            for (int height = 1; height <= depthOf(size); height++) {
                for (int from = 0; from == 0 || from < size; from += width) {
                    int to = Math.min(size, from + width);
                    all.put(height + ":" + from, content.elements.subList(from, to).toString());
                }
                width *= 4;
            }
        } else if (content.kind == 'm') {
            for (int level = 0; level <= 4; level++) {
                Map<Integer, TreeMap<Integer, Integer>> groups = new HashMap<>();
                if (level == 0) {
                    groups.put(0, new TreeMap<>());
                }
                for (Map.Entry<Integer, Integer> pair : content.pairs.entrySet()) {
                    int prefix = codeOf(pair.getKey()) % (1 << 2 * level);
                    groups.computeIfAbsent(prefix, x -> new TreeMap<>()).put(pair.getKey(), pair.getValue());
                }
                for (Map.Entry<Integer, TreeMap<Integer, Integer>> group : groups.entrySet()) {
                    if (level == 0 || group.getValue().size() > 1) {
                        all.put(level + "/" + group.getKey(), group.getValue().toString());
                    }
                }
            }
        }
        return all;
    }

    /** Gives nodes to what has come from the old one; answers how many are made. */
    private int settle(Content old, Map<String, String> before, Map<String, Integer> oldIds, Content made) {
        int count = 0;
        Map<String, Integer> ids = new HashMap<>();
        for (Map.Entry<String, String> entry : positions(made).entrySet()) {
            String position = entry.getKey();
            Integer id = oldIds.get(position);
            boolean same = id != null && entry.getValue().equals(before.get(position));
            boolean inPlace = id != null && made.kind == 'o' && made.own.contains(id);
            if (!same && !inPlace) {
                id = nodesMade++;
                made.own.add(id);
                count++;
            }
            ids.put(position, id);
        }
        made.ids = ids;
        return count;
    }

    private Content copy(Content old, char kind) {
        Content copy = new Content(kind);
        copy.elements.addAll(old.elements);
        copy.pairs.putAll(old.pairs);
        return copy;
    }

    private int keepFrom(Content old, Content made) {
        settle(old, positions(old), old.ids, made);
        values.add(made);
        return values.size() - 1;
    }

    private int keepNew(Content made) {
        return keepFrom(new Content('x'), made);
    }

    private Content value(int number) {
        if (number < 0 || number >= values.size()) {
            throw new IndexOutOfBoundsException();
        }
        return values.get(number);
    }

    private void room() {
        if (values.size() == 60) {
            throw new IllegalStateException();
        }
    }

    private static void argument(boolean holds) {
        if (!holds) {
            throw new IllegalArgumentException();
        }
    }

    private static void supported(boolean holds) {
        if (!holds) {
            throw new UnsupportedOperationException();
        }
    }

    private static void there(boolean holds) {
        if (!holds) {
            throw new NoSuchElementException();
        }
    }

    private static void state(boolean holds) {
        if (!holds) {
            throw new IllegalStateException();
        }
    }

    private static void index(boolean holds) {
        if (!holds) {
            throw new IndexOutOfBoundsException();
        }
    }

    private static boolean in(int x, int least, int greatest) {
        return least <= x && x <= greatest;
    }

    // ---- vectors and maps

    public int vector() {
        room();
        return keepNew(new Content('v'));
    }

    public int append(int value, int element) {
        Content old = value(value);
        argument(in(element, -999, 999));
        supported(old.kind == 'v' && old.elements.size() < 64);
        room();
        Content made = copy(old, 'v');
        made.elements.add(element);
        return keepFrom(old, made);
    }

    public int set(int value, int place, int element) {
        Content old = value(value);
        argument(in(element, -999, 999));
        supported(old.kind == 'v');
        there(in(place, 0, old.elements.size() - 1));
        room();
        Content made = copy(old, 'v');
        made.elements.set(place, element);
        return keepFrom(old, made);
    }

    public int cut(int value) {
        Content old = value(value);
        supported(old.kind == 'v');
        there(!old.elements.isEmpty());
        room();
        Content made = copy(old, 'v');
        made.elements.remove(made.elements.size() - 1);
        return keepFrom(old, made);
    }

    public int depth(int value) {
        Content asked = value(value);
        supported(asked.isVector());
        return depthOf(asked.elements.size());
    }

    public int open(int value) {
        Content old = value(value);
        supported(old.kind == 'v');
        room();
        return keepFrom(old, copy(old, 'o'));
    }

    public int appendTo(int value, int element) {
        Content changed = value(value);
        argument(in(element, -999, 999));
        supported(changed.kind == 'o' && changed.elements.size() < 64);
        Map<String, String> before = positions(changed);
        changed.elements.add(element);
        return settle(changed, before, changed.ids, changed);
    }

    public int setIn(int value, int place, int element) {
        Content changed = value(value);
        argument(in(element, -999, 999));
        supported(changed.kind == 'o');
        there(in(place, 0, changed.elements.size() - 1));
        Map<String, String> before = positions(changed);
        changed.elements.set(place, element);
        return settle(changed, before, changed.ids, changed);
    }

    public int makeLasting(int value) {
        Content opened = value(value);
        supported(opened.kind == 'o');
        room();
        int number = keepFrom(opened, copy(opened, 'v'));
        values.set(value, new Content('x'));
        return number;
    }

    public boolean isOpen(int value) {
        return value(value).kind == 'o';
    }

    public int map() {
        room();
        return keepNew(new Content('m'));
    }

    public int put(int value, int key, int element) {
        Content old = value(value);
        argument(in(key, 0, 999) && in(element, -999, 999));
        supported(old.kind == 'm' && (old.pairs.containsKey(key) || old.pairs.size() < 40));
        room();
        Content made = copy(old, 'm');
        made.pairs.put(key, element);
        return keepFrom(old, made);
    }

    public int without(int value, int key) {
        Content old = value(value);
        supported(old.kind == 'm');
        there(old.pairs.containsKey(key));
        room();
        Content made = copy(old, 'm');
        made.pairs.remove(key);
        return keepFrom(old, made);
    }

    public int get(int value, int key) {
        Content asked = value(value);
        if (asked.kind == 'm') {
            there(asked.pairs.containsKey(key));
            return asked.pairs.get(key);
        }
        there(in(key, 0, asked.elements.size() - 1));
        return asked.elements.get(key);
    }

    public int getPlain(int value, int key) {
        return get(value, key);
    }

    public int levelOf(int value, int key) {
        Content asked = value(value);
        supported(asked.kind == 'm');
        there(asked.pairs.containsKey(key));
        int level = 0;
        while (level < 4 && alike(asked, key, level + 1) > 1) {
            level++;
        }
        return level;
    }

    private static int alike(Content map, int key, int level) {
        int count = 0;
        for (int other : map.pairs.keySet()) {
            count += codeOf(other) % (1 << 2 * level) == codeOf(key) % (1 << 2 * level) ? 1 : 0;
        }
        return count;
    }

    public int size(int value) {
        Content asked = value(value);
        return asked.elements.size() + asked.pairs.size();
    }

    public int nodes(int value) {
        return value(value).ids.size();
    }

    public int shared(int value, int other) {
        Set<Integer> both = new HashSet<>(value(value).ids.values());
        both.retainAll(new HashSet<>(value(other).ids.values()));
        return both.size();
    }

    public boolean areSame(int value, int other) {
        Content a = value(value);
        Content b = value(other);
        there(a.kind != 'x' && b.kind != 'x');
        return a.isVector() == b.isVector() && a.elements.equals(b.elements) && a.pairs.equals(b.pairs);
    }

    public long made() {
        return nodesMade;
    }

    public float sharing() {
        Set<Integer> different = new HashSet<>();
        int sum = 0;
        for (Content value : values) {
            different.addAll(value.ids.values());
            sum += value.ids.size();
        }
        there(sum > 0);
        return (float) different.size() / (float) sum;
    }

    // ---- sequences: each chunk is pulled out of the source when it is asked, and put back if the call throws

    private Row row(int sequence) {
        index(in(sequence, 0, rows.size() - 1));
        return rows.get(sequence);
    }

    /** The chunk with this number, realised with those ahead of it; null if the sequence ends before. */
    private List<Integer> chunk(Row row, int number) {
        while (row.realised.size() <= number) {
            List<Integer> next = nextChunk(row, row.realised.size());
            if (next == null) {
                return null;
            }
            row.realised.add(next);
        }
        return row.realised.get(number);
    }

    private List<Integer> nextChunk(Row row, int number) {
        if (row.way == 'r') {
            List<Integer> made = new ArrayList<>();
            for (int i = 4 * number; i < 4 * number + 4 && i < row.many; i++) {
                made.add(row.from + i * row.number);
            }
            return made.isEmpty() ? null : made;
        }
        Row source = rows.get(row.source);
        if (row.way == 't') {
            Integer element = number < row.number ? element(source, number) : null;
            return element == null ? null : List.of(element);
        }
        List<Integer> chunk = chunk(source, number);
        return chunk == null ? null : worked(chunk, row);
    }

    /** The element at the place, or null if the sequence ends before it. */
    private Integer element(Row row, int place) {
        int before = 0;
        for (int i = 0;; i++) {
            List<Integer> chunk = chunk(row, i);
            if (chunk == null) {
                return null;
            }
            if (place < before + chunk.size()) {
                return chunk.get(place - before);
            }
            before += chunk.size();
        }
    }

    private static List<Integer> worked(List<Integer> chunk, Row row) {
        List<Integer> made = new ArrayList<>();
        for (int element : chunk) {
            if (row.way == 'a') {
                made.add(element + row.number);
            } else if (row.way == 'k') {
                if (Math.floorMod(element, row.number) == 0) {
                    made.add(element);
                }
            } else {
                supported(element != 0);
                int size = Math.abs(row.number) / Math.abs(element);
                made.add((row.number < 0) == (element < 0) ? size : -size);
            }
        }
        return made;
    }

    private List<Integer> wholeOf(Row row) {
        List<Integer> elements = new ArrayList<>();
        List<Integer> chunk = chunk(row, 0);
        for (int i = 1; chunk != null; i++) {
            elements.addAll(chunk);
            chunk = chunk(row, i);
        }
        return elements;
    }

    private int[] realisedOfAll() {
        return rows.stream().mapToInt(row -> row.realised.size()).toArray();
    }

    private void putBack(int[] realised) {
        for (int i = 0; i < realised.length; i++) {
            List<List<Integer>> chunks = rows.get(i).realised;
            chunks.subList(realised[i], chunks.size()).clear();
        }
    }

    public int range(int from, int step, int many) {
        argument(in(from, -99, 99) && in(step, -9, 9) && in(many, 0, 24));
        state(rows.size() < 12);
        Row row = new Row();
        row.way = 'r';
        row.from = from;
        row.number = step;
        row.many = many;
        rows.add(row);
        return rows.size() - 1;
    }

    public int over(int sequence, char way, int number) {
        row(sequence);
        argument("adkt".indexOf(way) >= 0);
        argument(in(number, way == 'k' ? 1 : way == 't' ? 0 : -99, 99));
        state(rows.size() < 12);
        Row row = new Row();
        row.source = sequence;
        row.way = way;
        row.number = number;
        rows.add(row);
        return rows.size() - 1;
    }

    public int at(int sequence, int place) {
        Row row = row(sequence);
        int[] before = realisedOfAll();
        try {
            Integer element = element(row, place < 0 ? Integer.MAX_VALUE : place);
            there(element != null);
            return element;
        } catch (RuntimeException e) {
            putBack(before);
            throw e;
        }
    }

    public int all(int sequence) {
        Row row = row(sequence);
        int[] before = realisedOfAll();
        try {
            return wholeOf(row).size();
        } catch (RuntimeException e) {
            putBack(before);
            throw e;
        }
    }

    public int realised(int sequence) {
        return row(sequence).realised.stream().mapToInt(List::size).sum();
    }

    public int chunks(int sequence) {
        return row(sequence).realised.size();
    }

    public int collect(int sequence) {
        Row row = row(sequence);
        int[] before = realisedOfAll();
        try {
            Content made = new Content('v');
            made.elements.addAll(wholeOf(row));
            for (int element : made.elements) {
                argument(in(element, -999, 999));
            }
            room();
            return keepNew(made);
        } catch (RuntimeException e) {
            putBack(before);
            throw e;
        }
    }

    // ---- references and transactions

    private Tx tx(int transaction) {
        argument(in(transaction, 0, 2));
        return txs[transaction];
    }

    private Ref ref(int reference) {
        index(in(reference, 0, refs.size() - 1));
        return refs.get(reference);
    }

    private boolean back(Tx tx) {
        tx.clear();
        tx.point = now;
        tx.backs++;
        return false;
    }

    private boolean fights(Tx tx, int reference, boolean alsoEnsured) {
        for (Tx other : txs) {
            boolean against = other.wrote.containsKey(reference) || alsoEnsured && other.ensured.contains(reference);
            if (other == tx || !other.open || !against) {
                continue;
            }
            back(tx.age > other.age ? tx : other);
            if (tx.age > other.age) {
                return false;
            }
        }
        return true;
    }

    private static int lastMoment(Ref ref) {
        return ref.past.get(ref.past.size() - 1)[0];
    }

    public int addReference(int value, int least, int greatest) {
        argument(in(least, -999, 999) && in(greatest, -999, 999) && in(value, least, greatest));
        state(refs.size() < 6);
        Ref ref = new Ref();
        ref.value = value;
        ref.first = value;
        ref.least = least;
        ref.greatest = greatest;
        ref.past.add(new int[] {0, value});
        refs.add(ref);
        return refs.size() - 1;
    }

    public int begin(int transaction) {
        Tx tx = tx(transaction);
        state(!tx.open);
        tx.clear();
        tx.open = true;
        tx.point = now;
        tx.backs = 0;
        tx.age = ages++;
        return now;
    }

    public int read(int transaction, int reference) {
        Tx tx = tx(transaction);
        Ref ref = ref(reference);
        state(tx.open);
        if (tx.wrote.containsKey(reference)) {
            return tx.wrote.get(reference);
        }
        Integer found = null;
        for (int[] past : ref.past) {
            found = past[0] <= tx.point ? Integer.valueOf(past[1]) : found;
        }
        if (found == null) {
            ref.limit = Math.min(8, ref.limit + 1);
            back(tx);
            return -10000;
        }
        return found + tx.adds.getOrDefault(reference, 0);
    }

    public boolean write(int transaction, int reference, int value) {
        Tx tx = tx(transaction);
        Ref ref = ref(reference);
        state(tx.open);
        supported(!tx.adds.containsKey(reference) && in(value, -999, 999));
        if (lastMoment(ref) > tx.point) {
            return back(tx);
        }
        if (!fights(tx, reference, true)) {
            return false;
        }
        tx.wrote.put(reference, value);
        return true;
    }

    public boolean ensure(int transaction, int reference) {
        Tx tx = tx(transaction);
        Ref ref = ref(reference);
        state(tx.open);
        if (lastMoment(ref) > tx.point) {
            return back(tx);
        }
        if (!fights(tx, reference, false)) {
            return false;
        }
        tx.ensured.add(reference);
        return true;
    }

    public boolean add(int transaction, int reference, int number) {
        Tx tx = tx(transaction);
        ref(reference);
        state(tx.open);
        Map<Integer, Integer> changed = tx.wrote.containsKey(reference) ? tx.wrote : tx.adds;
        int sum = changed.getOrDefault(reference, 0) + number;
        supported(in(number, -99, 99) && in(sum, -999, 999));
        changed.put(reference, sum);
        return true;
    }

    public char commit(int transaction) {
        Tx tx = tx(transaction);
        state(tx.open);
        for (int reference : new ArrayList<>(tx.adds.keySet())) {
            if (!fights(tx, reference, true)) {
                return 's';
            }
        }
        Map<Integer, Integer> changed = new TreeMap<>(tx.wrote);
        for (Map.Entry<Integer, Integer> add : tx.adds.entrySet()) {
            changed.put(add.getKey(), refs.get(add.getKey()).value + add.getValue());
        }
        tx.open = false;
        List<int[]> sent = new ArrayList<>(tx.sent);
        tx.clear();
        for (Map.Entry<Integer, Integer> change : changed.entrySet()) {
            Ref ref = refs.get(change.getKey());
            if (!in(change.getValue(), ref.least, ref.greatest)) {
                return 'b';
            }
        }
        now += changed.isEmpty() ? 0 : 1;
        for (Map.Entry<Integer, Integer> change : changed.entrySet()) {
            Ref ref = refs.get(change.getKey());
            log.add(new int[] {now, change.getKey(), ref.value, change.getValue()});
            ref.value = change.getValue();
            ref.past.add(new int[] {now, ref.value});
            while (ref.past.size() > ref.limit) {
                ref.past.remove(0);
            }
        }
        for (int[] one : sent) {
            receive(workers.get(one[0]), one[1]);
        }
        return 'c';
    }

    public int end(int transaction) {
        Tx tx = tx(transaction);
        state(tx.open);
        tx.clear();
        tx.open = false;
        return tx.backs;
    }

    public int sentBack(int transaction) {
        return tx(transaction).backs;
    }

    public int valueOf(int reference) {
        return ref(reference).value;
    }

    public int valueByLog(int reference) {
        return ref(reference).value;
    }

    public int history(int reference) {
        return ref(reference).past.size();
    }

    public int moment() {
        return now;
    }

    public int logged() {
        return log.size();
    }

    public int logAt(int entry, int what) {
        index(in(entry, 0, log.size() - 1));
        argument(in(what, 0, 3));
        return log.get(entry)[what];
    }

    // ---- agents

    private Worker worker(int agent) {
        index(in(agent, 0, workers.size() - 1));
        return workers.get(agent);
    }

    private static void receive(Worker worker, int number) {
        if (worker.row.size() < 12) {
            worker.row.add(number);
        }
    }

    public int addAgent(int value, int least, int greatest, char mode) {
        argument(in(least, -999, 999) && in(greatest, -999, 999) && in(value, least, greatest));
        argument(mode == 'f' || mode == 'c');
        state(workers.size() < 4);
        Worker worker = new Worker();
        worker.value = value;
        worker.least = least;
        worker.greatest = greatest;
        worker.mode = mode;
        workers.add(worker);
        return workers.size() - 1;
    }

    public int send(int transaction, int agent, int number) {
        argument(in(transaction, -1, 2) && in(number, -99, 99));
        Worker worker = worker(agent);
        if (transaction < 0) {
            receive(worker, number);
        } else {
            state(txs[transaction].open);
            txs[transaction].sent.add(new int[] {agent, number});
        }
        return worker.row.size();
    }

    public int act(int agent) {
        Worker worker = worker(agent);
        there(!worker.row.isEmpty());
        state(!worker.failed);
        int sum = worker.value + worker.row.remove(0);
        if (in(sum, worker.least, worker.greatest)) {
            worker.value = sum;
        } else {
            worker.errors++;
            worker.failed = worker.mode == 'f';
        }
        return worker.value;
    }

    public int beginAnew(int agent, int value) {
        Worker worker = worker(agent);
        argument(in(value, worker.least, worker.greatest));
        state(worker.failed);
        int before = worker.value;
        worker.value = value;
        worker.failed = false;
        return before;
    }

    public int errors(int agent) {
        return worker(agent).errors;
    }
}
