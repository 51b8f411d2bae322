import java.util.ArrayList;
import java.util.Arrays;
import java.util.NoSuchElementException;

/** A parlour of lasting values: ../shared/DOC.md holds its promises. */
public final class PersistentParlour {
    private static final int MOST_VALUES = 60;
    private static final int MOST_ELEMENTS = 64;
    private static final int MOST_KEYS = 40;
    private static final int GREATEST_KEY = 999;
    private static final int GREATEST_ELEMENT = 999;
    private static final int MOST_SEQUENCES = 12;
    private static final int MOST_IN_RANGE = 24;
    private static final int RANGE_CHUNK = 4;
    private static final int GREATEST_NUMBER = 99;
    private static final int GREATEST_STEP = 9;
    private static final int MOST_REFERENCES = 6;
    private static final int FIRST_LIMIT = 2;
    private static final int MOST_HISTORY = 8;
    private static final int MOST_TRANSACTIONS = 3;
    private static final int MOST_AGENTS = 4;
    private static final int MOST_WAITING = 12;
    // An entry takes a call of write or add at least, so the promised calls cannot fill this.
    private static final int MOST_LOGGED = 512;

    private static final int BRANCHES = 4;
    private static final int ROW_LEVEL = 4;
    // A map is the deepest trie: its levels 0 to 4 make five nodes one below the other.
    private static final int MOST_NODES_DEEP = 5;
    private static final int VECTOR = 0;
    private static final int OPEN = 1;
    private static final int MAP = 2;
    /** What an open vector is once it was made lasting. */
    private static final int SPENT = 3;

    private static final int NONE = -1;
    private static final int NOBODY = -1;
    private static final int NO_TRANSACTION = -1;
    private static final int SENT_BACK = -10000;

    private final Value[] values = new Value[MOST_VALUES];
    private int valueCount = 0;
    private final NodeMaker maker = new NodeMaker();
    private int marks = 0;
    private final Sequence[] sequences = new Sequence[MOST_SEQUENCES];
    private int sequenceCount = 0;
    private final Reference[] references = new Reference[MOST_REFERENCES];
    private int referenceCount = 0;
    private final Transaction[] transactions = new Transaction[MOST_TRANSACTIONS];
    private int births = 0;
    private int present = 0;
    private final ArrayList<LogEntry> log = new ArrayList<LogEntry>();
    private final Agent[] agents = new Agent[MOST_AGENTS];
    private int agentCount = 0;

    public PersistentParlour() {
        for (int i = 0; i < MOST_TRANSACTIONS; i++) {
            transactions[i] = new Transaction();
        }
    }

    // ---- vectors

    public int vector() throws IllegalStateException {
        refuseMoreValues();
        return keepVector(maker.freshLeaf(NOBODY), 0, new int[0]);
    }

    public int append(int value, int element) throws IndexOutOfBoundsException, IllegalArgumentException, UnsupportedOperationException, IllegalStateException {
        Value old = valueNumbered(value);
        refuseElement(element);
        refuseUnless(old, VECTOR);
        refuseFull(old);
        refuseMoreValues();
        int size = old.size;
        int[] plain = Arrays.copyOf(old.plainElements, size + 1);
        plain[size] = element;
        return keepVector(VectorWork.withOneMore(maker, old.top, size, element, NOBODY), size + 1, plain);
    }

    public int set(int value, int place, int element) throws IndexOutOfBoundsException, IllegalArgumentException, UnsupportedOperationException, NoSuchElementException, IllegalStateException {
        Value old = valueNumbered(value);
        refuseElement(element);
        refuseUnless(old, VECTOR);
        refusePlace(old, place);
        refuseMoreValues();
        int size = old.size;
        if (VectorWork.elementIn(old.top, size, place) == element) {
            return keepVector(old.top, size, old.plainElements);
        }
        int[] plain = Arrays.copyOf(old.plainElements, size);
        plain[place] = element;
        return keepVector(VectorWork.withOther(maker, old.top, size, place, element, NOBODY), size, plain);
    }

    public int cut(int value) throws IndexOutOfBoundsException, UnsupportedOperationException, NoSuchElementException, IllegalStateException {
        Value old = valueNumbered(value);
        refuseUnless(old, VECTOR);
        int left = old.size - 1;
        if (left < 0) {
            throw new NoSuchElementException("the vector is empty");
        }
        refuseMoreValues();
        return keepVector(VectorWork.withOneLess(maker, old.top, old.size), left, Arrays.copyOf(old.plainElements, left));
    }

    public int depth(int value) throws IndexOutOfBoundsException, UnsupportedOperationException {
        Value asked = valueNumbered(value);
        if (!asked.isLiveVector()) {
            throw new UnsupportedOperationException("no vector");
        }
        return VectorWork.depthFor(asked.size);
    }

    // ---- open vectors

    public int open(int value) throws IndexOutOfBoundsException, UnsupportedOperationException, IllegalStateException {
        Value old = valueNumbered(value);
        refuseUnless(old, VECTOR);
        refuseMoreValues();
        int[] plain = Arrays.copyOf(old.plainElements, MOST_ELEMENTS);
        return keep(new Value(OPEN, old.top, old.size, null, plain));
    }

    public int appendTo(int value, int element) throws IndexOutOfBoundsException, IllegalArgumentException, UnsupportedOperationException {
        Value changed = valueNumbered(value);
        refuseElement(element);
        refuseUnless(changed, OPEN);
        refuseFull(changed);
        long before = maker.count;
        int size = changed.size;
        changed.top = VectorWork.withOneMore(maker, changed.top, size, element, value);
        changed.putPlain(size, element);
        changed.size = size + 1;
        return (int) (maker.count - before);
    }

    public int setIn(int value, int place, int element) throws IndexOutOfBoundsException, IllegalArgumentException, UnsupportedOperationException, NoSuchElementException {
        Value changed = valueNumbered(value);
        refuseElement(element);
        refuseUnless(changed, OPEN);
        refusePlace(changed, place);
        if (VectorWork.elementIn(changed.top, changed.size, place) == element) {
            return 0;
        }
        long before = maker.count;
        changed.top = VectorWork.withOther(maker, changed.top, changed.size, place, element, value);
        changed.putPlain(place, element);
        return (int) (maker.count - before);
    }

    public int makeLasting(int value) throws IndexOutOfBoundsException, UnsupportedOperationException, IllegalStateException {
        Value opened = valueNumbered(value);
        refuseUnless(opened, OPEN);
        refuseMoreValues();
        int number = keepVector(opened.top, opened.size, Arrays.copyOf(opened.plainElements, opened.size));
        opened.spend();
        return number;
    }

    public boolean isOpen(int value) throws IndexOutOfBoundsException {
        return valueNumbered(value).kind == OPEN;
    }

    // ---- maps

    public int map() throws IllegalStateException {
        refuseMoreValues();
        return keepMap(maker.freshMapNode(0), 0, new int[0], new int[0]);
    }

    public int put(int value, int key, int element) throws IndexOutOfBoundsException, IllegalArgumentException, UnsupportedOperationException, IllegalStateException {
        Value old = valueNumbered(value);
        if (key < 0 || key > GREATEST_KEY) {
            throw new IllegalArgumentException("the key is out of range");
        }
        refuseElement(element);
        refuseUnless(old, MAP);
        Node holder = MapWork.holderOf(old.top, key);
        if (holder == null && old.size >= MOST_KEYS) {
            throw new UnsupportedOperationException("the map is full");
        }
        refuseMoreValues();
        if (holder != null && holder.elementAt(holder.slotOf(key)) == element) {
            return keepMap(old.top, old.size, old.plainKeys, old.plainElements);
        }
        int slot = holder == null ? old.size : old.plainSlotOf(key);
        int size = holder == null ? old.size + 1 : old.size;
        Value made = new Value(MAP, MapWork.withPair(maker, old.top, key, element), size,
                Arrays.copyOf(old.plainKeys, size), Arrays.copyOf(old.plainElements, size));
        made.putPlainPair(slot, key, element);
        return keep(made);
    }

    public int without(int value, int key) throws IndexOutOfBoundsException, UnsupportedOperationException, NoSuchElementException, IllegalStateException {
        Value old = valueNumbered(value);
        refuseUnless(old, MAP);
        if (MapWork.holderOf(old.top, key) == null) {
            throw new NoSuchElementException("no such key");
        }
        refuseMoreValues();
        int slot = old.plainSlotOf(key);
        return keepMap(MapWork.withoutKey(maker, old.top, key), old.size - 1,
                rowWithout(old.plainKeys, slot), rowWithout(old.plainElements, slot));
    }

    public int get(int value, int key) throws IndexOutOfBoundsException, NoSuchElementException {
        Value asked = valueNumbered(value);
        if (asked.kind == MAP) {
            Node holder = MapWork.holderOf(asked.top, key);
            if (holder == null) {
                throw new NoSuchElementException("no such key");
            }
            return holder.elementAt(holder.slotOf(key));
        }
        refusePlace(asked, key);
        return VectorWork.elementIn(asked.top, asked.size, key);
    }

    public int getPlain(int value, int key) throws IndexOutOfBoundsException, NoSuchElementException {
        Value asked = valueNumbered(value);
        int slot = asked.plainSlotOf(key);
        if (slot == NONE) {
            throw new NoSuchElementException("no such key or place");
        }
        return asked.plainElementAt(slot);
    }

    public int levelOf(int value, int key) throws IndexOutOfBoundsException, UnsupportedOperationException, NoSuchElementException {
        Value asked = valueNumbered(value);
        refuseUnless(asked, MAP);
        Node holder = MapWork.holderOf(asked.top, key);
        if (holder == null) {
            throw new NoSuchElementException("no such key");
        }
        return holder.level;
    }

    // ---- all values

    public int size(int value) throws IndexOutOfBoundsException {
        return valueNumbered(value).size;
    }

    public int nodes(int value) throws IndexOutOfBoundsException {
        return countNodes(valueNumbered(value).top, 1);
    }

    public int shared(int value, int other) throws IndexOutOfBoundsException {
        Value first = valueNumbered(value);
        Value second = valueNumbered(other);
        marks++;
        markNodes(first.top, marks, 1);
        return countNodes(second.top, 1) - markNodes(second.top, marks, 1);
    }

    public boolean areSame(int value, int other) throws IndexOutOfBoundsException, NoSuchElementException {
        Value first = valueNumbered(value);
        Value second = valueNumbered(other);
        if (first.kind == SPENT || second.kind == SPENT) {
            throw new NoSuchElementException("an open vector was made lasting");
        }
        if (first.isLiveVector() != second.isLiveVector() || first.size != second.size) {
            return false;
        }
        return first.isLiveVector() ? sameElements(first, second) : samePairs(first, second);
    }

    public long made() {
        return maker.count;
    }

    // ---- sequences

    public int range(int from, int step, int many) throws IllegalArgumentException, IllegalStateException {
        if (!isWithin(from, -GREATEST_NUMBER, GREATEST_NUMBER) || !isWithin(step, -GREATEST_STEP, GREATEST_STEP)
                || !isWithin(many, 0, MOST_IN_RANGE)) {
            throw new IllegalArgumentException("a number is out of range");
        }
        refuseMoreSequences();
        Sequence made = new Sequence(null, 'r', 0);
        made.fillRange(from, step, many);
        return keepSequence(made);
    }

    public int over(int sequence, char way, int number) throws IndexOutOfBoundsException, IllegalArgumentException, IllegalStateException {
        Sequence source = sequenceNumbered(sequence);
        if (way != 'a' && way != 'd' && way != 'k' && way != 't') {
            throw new IllegalArgumentException("no such way");
        }
        int least = way == 'k' ? 1 : way == 't' ? 0 : -GREATEST_NUMBER;
        if (!isWithin(number, least, GREATEST_NUMBER)) {
            throw new IllegalArgumentException("the number is out of range");
        }
        refuseMoreSequences();
        Sequence made = new Sequence(source, way, number);
        if (way == 't') {
            made.fillFirst();
        } else {
            made.fillByChunks();
        }
        return keepSequence(made);
    }

    public int at(int sequence, int place) throws IndexOutOfBoundsException, UnsupportedOperationException, NoSuchElementException {
        Sequence asked = sequenceNumbered(sequence);
        if (place < 0 || place >= asked.count) {
            refuseBroken(asked);
            throw new NoSuchElementException("no such element");
        }
        realise(asked, asked.chunksFor(place), false);
        return asked.elementAt(place);
    }

    public int all(int sequence) throws IndexOutOfBoundsException, UnsupportedOperationException {
        Sequence asked = sequenceNumbered(sequence);
        refuseBroken(asked);
        realise(asked, asked.chunkCount, true);
        return asked.count;
    }

    public int realised(int sequence) throws IndexOutOfBoundsException {
        Sequence asked = sequenceNumbered(sequence);
        return asked.elementsIn(asked.realisedChunks);
    }

    public int chunks(int sequence) throws IndexOutOfBoundsException {
        return sequenceNumbered(sequence).realisedChunks;
    }

    public int collect(int sequence) throws IndexOutOfBoundsException, UnsupportedOperationException, IllegalArgumentException, IllegalStateException {
        Sequence asked = sequenceNumbered(sequence);
        refuseBroken(asked);
        for (int i = 0; i < asked.count; i++) {
            refuseElement(asked.elementAt(i));
        }
        refuseMoreValues();
        realise(asked, asked.chunkCount, true);
        // With an owner while it grows, every node of the new vector is made once only.
        int owner = valueCount;
        Node top = maker.freshLeaf(owner);
        for (int i = 0; i < asked.count; i++) {
            top = VectorWork.withOneMore(maker, top, i, asked.elementAt(i), owner);
        }
        return keepVector(top, asked.count, Arrays.copyOf(asked.elements, asked.count));
    }

    // ---- references and transactions

    public int addReference(int value, int least, int greatest) throws IllegalArgumentException, IllegalStateException {
        refuseBounds(value, least, greatest);
        if (referenceCount >= MOST_REFERENCES) {
            throw new IllegalStateException("no more references");
        }
        references[referenceCount] = new Reference(value, least, greatest);
        referenceCount++;
        return referenceCount - 1;
    }

    public int begin(int transaction) throws IllegalArgumentException, IllegalStateException {
        Transaction begun = transactionNumbered(transaction);
        if (begun.running) {
            throw new IllegalStateException("the transaction is open");
        }
        births++;
        begun.start(births, present);
        return present;
    }

    public int read(int transaction, int reference) throws IllegalArgumentException, IndexOutOfBoundsException, IllegalStateException {
        Transaction reader = transactionNumbered(transaction);
        Reference asked = referenceNumbered(reference);
        refuseEnded(reader);
        if (reader.written[reference]) {
            return reader.own[reference];
        }
        int entry = asked.entryNotBehind(reader.point);
        if (entry == NONE) {
            asked.raiseLimit();
            reader.goBack(present);
            return SENT_BACK;
        }
        return asked.valueAt(entry) + reader.sums[reference];
    }

    public boolean write(int transaction, int reference, int value) throws IllegalArgumentException, IndexOutOfBoundsException, IllegalStateException, UnsupportedOperationException {
        Transaction writer = transactionNumbered(transaction);
        Reference asked = referenceNumbered(reference);
        refuseEnded(writer);
        if (writer.adding[reference] || !isWithin(value, -GREATEST_ELEMENT, GREATEST_ELEMENT)) {
            throw new UnsupportedOperationException("it adds to the reference, or the value is out of range");
        }
        if (!holdsPoint(writer, asked) || !winsAgainstOthers(writer, reference, true)) {
            return false;
        }
        writer.written[reference] = true;
        writer.own[reference] = value;
        return true;
    }

    public boolean ensure(int transaction, int reference) throws IllegalArgumentException, IndexOutOfBoundsException, IllegalStateException {
        Transaction ensurer = transactionNumbered(transaction);
        Reference asked = referenceNumbered(reference);
        refuseEnded(ensurer);
        if (!holdsPoint(ensurer, asked) || !winsAgainstOthers(ensurer, reference, false)) {
            return false;
        }
        ensurer.ensured[reference] = true;
        return true;
    }

    public boolean add(int transaction, int reference, int number) throws IllegalArgumentException, IndexOutOfBoundsException, IllegalStateException, UnsupportedOperationException {
        Transaction adder = transactionNumbered(transaction);
        referenceNumbered(reference);
        refuseEnded(adder);
        if (!isWithin(number, -GREATEST_NUMBER, GREATEST_NUMBER)) {
            throw new UnsupportedOperationException("the number is out of range");
        }
        boolean isWritten = adder.written[reference];
        int result = (isWritten ? adder.own[reference] : adder.sums[reference]) + number;
        if (!isWithin(result, -GREATEST_ELEMENT, GREATEST_ELEMENT)) {
            throw new UnsupportedOperationException("the sum is out of range");
        }
        if (isWritten) {
            adder.own[reference] = result;
        } else {
            adder.adding[reference] = true;
            adder.sums[reference] = result;
        }
        return true;
    }

    public char commit(int transaction) throws IllegalArgumentException, IllegalStateException {
        Transaction committer = transactionNumbered(transaction);
        refuseEnded(committer);
        for (int i = 0; i < referenceCount; i++) {
            if (committer.adding[i] && !winsAgainstOthers(committer, i, true)) {
                return 's';
            }
        }
        if (!staysWithinBounds(committer)) {
            committer.stop();
            return 'b';
        }
        if (changesAny(committer)) {
            recordChanges(committer);
        }
        deliver(committer);
        committer.stop();
        return 'c';
    }

    public int end(int transaction) throws IllegalArgumentException, IllegalStateException {
        Transaction ended = transactionNumbered(transaction);
        refuseEnded(ended);
        ended.stop();
        return ended.timesBack;
    }

    public int sentBack(int transaction) throws IllegalArgumentException {
        return transactionNumbered(transaction).timesBack;
    }

    public int valueOf(int reference) throws IndexOutOfBoundsException {
        return referenceNumbered(reference).latestValue();
    }

    public int valueByLog(int reference) throws IndexOutOfBoundsException {
        int value = referenceNumbered(reference).firstValue;
        for (int i = 0; i < log.size(); i++) {
            LogEntry entry = log.get(i);
            if (entry.reference == reference) {
                value = entry.after;
            }
        }
        return value;
    }

    public int history(int reference) throws IndexOutOfBoundsException {
        return referenceNumbered(reference).kept;
    }

    public int moment() {
        return present;
    }

    public int logged() {
        return log.size();
    }

    public int logAt(int entry, int what) throws IndexOutOfBoundsException, IllegalArgumentException {
        if (entry < 0 || entry >= log.size()) {
            throw new IndexOutOfBoundsException("no such entry");
        }
        LogEntry asked = log.get(entry);
        switch (what) {
            case 0:
                return asked.cameIn;
            case 1:
                return asked.reference;
            case 2:
                return asked.before;
            case 3:
                return asked.after;
            default:
                throw new IllegalArgumentException("nothing like that is logged");
        }
    }

    // ---- agents

    public int addAgent(int value, int least, int greatest, char mode) throws IllegalArgumentException, IllegalStateException {
        refuseBounds(value, least, greatest);
        if (mode != 'f' && mode != 'c') {
            throw new IllegalArgumentException("no such mode");
        }
        if (agentCount >= MOST_AGENTS) {
            throw new IllegalStateException("no more agents");
        }
        agents[agentCount] = new Agent(value, least, greatest, mode == 'f');
        agentCount++;
        return agentCount - 1;
    }

    public int send(int transaction, int agent, int number) throws IllegalArgumentException, IndexOutOfBoundsException, IllegalStateException {
        Transaction sender = transaction == NO_TRANSACTION ? null : transactionNumbered(transaction);
        if (!isWithin(number, -GREATEST_NUMBER, GREATEST_NUMBER)) {
            throw new IllegalArgumentException("the number is out of range");
        }
        Agent receiver = agentNumbered(agent);
        if (sender == null) {
            receiver.waiting.lineUp(number);
        } else {
            refuseEnded(sender);
            sender.outgoing[agent].lineUp(number);
        }
        return receiver.waiting.count;
    }

    public int act(int agent) throws IndexOutOfBoundsException, NoSuchElementException, IllegalStateException {
        Agent actor = agentNumbered(agent);
        if (actor.waiting.count == 0) {
            throw new NoSuchElementException("no number waits");
        }
        if (actor.failed) {
            throw new IllegalStateException("the agent has failed");
        }
        actor.takeNumber();
        return actor.value;
    }

    public int beginAnew(int agent, int value) throws IndexOutOfBoundsException, IllegalArgumentException, IllegalStateException {
        Agent renewed = agentNumbered(agent);
        if (!isWithin(value, renewed.least, renewed.greatest)) {
            throw new IllegalArgumentException("the value is out of its bounds");
        }
        if (!renewed.failed) {
            throw new IllegalStateException("the agent has not failed");
        }
        int before = renewed.value;
        renewed.value = value;
        renewed.failed = false;
        return before;
    }

    public int errors(int agent) throws IndexOutOfBoundsException {
        return agentNumbered(agent).errorCount;
    }

    public float sharing() throws NoSuchElementException {
        int different = 0;
        int total = 0;
        marks++;
        for (int i = 0; i < valueCount; i++) {
            Node top = valueNumbered(i).top;
            different += markNodes(top, marks, 1);
            total += countNodes(top, 1);
        }
        if (total == 0) {
            throw new NoSuchElementException("no values with nodes");
        }
        return (float) different / (float) total;
    }

    // ---- what the calls have in common: values

    private Value valueNumbered(int number) {
        Value found = number < 0 || number >= valueCount ? null : values[number];
        if (found == null) {
            throw new IndexOutOfBoundsException("no such value");
        }
        return found;
    }

    private void refuseMoreValues() {
        if (valueCount >= MOST_VALUES) {
            throw new IllegalStateException("no more values");
        }
    }

    private static void refuseElement(int element) {
        if (!isWithin(element, -GREATEST_ELEMENT, GREATEST_ELEMENT)) {
            throw new IllegalArgumentException("an element is out of range");
        }
    }

    private static void refuseUnless(Value value, int kind) {
        if (value.kind != kind) {
            throw new UnsupportedOperationException("the value is of another kind");
        }
    }

    private static void refuseFull(Value vector) {
        if (vector.size >= MOST_ELEMENTS) {
            throw new UnsupportedOperationException("the vector is full");
        }
    }

    private static void refusePlace(Value vector, int place) {
        if (place < 0 || place >= vector.size) {
            throw new NoSuchElementException("no such place");
        }
    }

    private static boolean isWithin(int number, int least, int greatest) {
        return number >= least && number <= greatest;
    }

    private int keep(Value value) {
        values[valueCount] = value;
        valueCount++;
        return valueCount - 1;
    }

    private int keepVector(Node top, int size, int[] plain) {
        return keep(new Value(VECTOR, top, size, null, plain));
    }

    private int keepMap(Node top, int size, int[] plainKeys, int[] plainElements) {
        return keep(new Value(MAP, top, size, plainKeys, plainElements));
    }

    private static int[] rowWithout(int[] row, int slot) {
        int[] shorter = new int[Math.max(row.length - 1, 0)];
        for (int i = 0; i < shorter.length; i++) {
            shorter[i] = i < slot ? row[i] : row[i + 1];
        }
        return shorter;
    }

    private static boolean sameElements(Value first, Value second) {
        for (int i = 0; i < first.size; i++) {
            if (VectorWork.elementIn(first.top, first.size, i) != VectorWork.elementIn(second.top, second.size, i)) {
                return false;
            }
        }
        return true;
    }

    private static boolean samePairs(Value first, Value second) {
        for (int i = 0; i < first.size; i++) {
            int key = first.plainKeyAt(i);
            Node holder = MapWork.holderOf(second.top, key);
            if (holder == null || holder.elementAt(holder.slotOf(key)) != first.plainElementAt(i)) {
                return false;
            }
        }
        return true;
    }

    private static int countNodes(Node node, int deep) {
        if (node == null || deep > MOST_NODES_DEEP) {
            return 0;
        }
        int count = 1;
        if (node.below != null) {
            for (Node child : node.below) {
                count += countNodes(child, deep + 1);
            }
        }
        return count;
    }

    /** Answers how many of the nodes did not bear the mark before. */
    private static int markNodes(Node node, int mark, int deep) {
        if (node == null || deep > MOST_NODES_DEEP) {
            return 0;
        }
        int count = node.mark == mark ? 0 : 1;
        node.mark = mark;
        if (node.below != null) {
            for (Node child : node.below) {
                count += markNodes(child, mark, deep + 1);
            }
        }
        return count;
    }

    // ---- what the calls have in common: sequences

    private Sequence sequenceNumbered(int number) {
        Sequence found = number < 0 || number >= sequenceCount ? null : sequences[number];
        if (found == null) {
            throw new IndexOutOfBoundsException("no such sequence");
        }
        return found;
    }

    private void refuseMoreSequences() {
        if (sequenceCount >= MOST_SEQUENCES) {
            throw new IllegalStateException("no more sequences");
        }
    }

    private static void refuseBroken(Sequence sequence) {
        if (sequence.broken) {
            throw new UnsupportedOperationException("an element would be divided by 0");
        }
    }

    private int keepSequence(Sequence sequence) {
        sequences[sequenceCount] = sequence;
        sequenceCount++;
        return sequenceCount - 1;
    }

    /**
     * To ask for the whole sequence is more than to ask for its last chunk: by 't', the end shows
     * only at the end of the source.
     */
    private static void realise(Sequence asked, int chunkCount, boolean whole) {
        Sequence sequence = asked;
        int due = chunkCount;
        boolean isWhole = whole;
        for (int i = 0; i < MOST_SEQUENCES && sequence != null; i++) {
            sequence.realisedChunks = Math.max(sequence.realisedChunks, due);
            isWhole = isWhole && sequence.endsWithSource();
            due = sequence.sourceChunksFor(due, isWhole);
            sequence = due == NONE ? null : sequence.source;
        }
    }

    // ---- what the calls have in common: references, transactions, agents

    private static void refuseBounds(int value, int least, int greatest) {
        if (least < -GREATEST_ELEMENT || greatest > GREATEST_ELEMENT || !isWithin(value, least, greatest)) {
            throw new IllegalArgumentException("the bounds or the value are out of range");
        }
    }

    private Reference referenceNumbered(int number) {
        Reference found = number < 0 || number >= referenceCount ? null : references[number];
        if (found == null) {
            throw new IndexOutOfBoundsException("no such reference");
        }
        return found;
    }

    private Transaction transactionNumbered(int number) {
        Transaction found = number < 0 || number >= MOST_TRANSACTIONS ? null : transactions[number];
        if (found == null) {
            throw new IllegalArgumentException("no such transaction");
        }
        return found;
    }

    private Agent agentNumbered(int number) {
        Agent found = number < 0 || number >= agentCount ? null : agents[number];
        if (found == null) {
            throw new IndexOutOfBoundsException("no such agent");
        }
        return found;
    }

    private static void refuseEnded(Transaction transaction) {
        if (!transaction.running) {
            throw new IllegalStateException("the transaction is not open");
        }
    }

    private boolean holdsPoint(Transaction transaction, Reference reference) {
        if (reference.latestMoment() <= transaction.point) {
            return true;
        }
        transaction.goBack(present);
        return false;
    }

    private boolean winsAgainstOthers(Transaction asking, int reference, boolean ensuredCounts) {
        for (Transaction other : transactions) {
            if (other != null && other != asking && other.holds(reference, ensuredCounts)) {
                if (asking.birth > other.birth) {
                    asking.goBack(present);
                    return false;
                }
                other.goBack(present);
            }
        }
        return true;
    }

    private int valueToCommit(Transaction committer, int reference) {
        return committer.written[reference] ? committer.own[reference]
                : referenceNumbered(reference).latestValue() + committer.sums[reference];
    }

    private boolean staysWithinBounds(Transaction committer) {
        for (int i = 0; i < referenceCount; i++) {
            Reference reference = referenceNumbered(i);
            if (committer.changes(i) && !isWithin(valueToCommit(committer, i), reference.least, reference.greatest)) {
                return false;
            }
        }
        return true;
    }

    private boolean changesAny(Transaction committer) {
        for (int i = 0; i < referenceCount; i++) {
            if (committer.changes(i)) {
                return true;
            }
        }
        return false;
    }

    private void recordChanges(Transaction committer) {
        present++;
        for (int i = 0; i < referenceCount; i++) {
            if (committer.changes(i)) {
                Reference reference = referenceNumbered(i);
                int before = reference.latestValue();
                int after = valueToCommit(committer, i);
                reference.come(after, present);
                if (log.size() < MOST_LOGGED) {
                    log.add(new LogEntry(present, i, before, after));
                }
            }
        }
    }

    private void deliver(Transaction committer) {
        for (int i = 0; i < agentCount; i++) {
            agentNumbered(i).waiting.lineUpAll(committer.outgoing[i]);
        }
    }

    // ---- the parts

    private static final class Value {
        int kind;
        Node top;
        int size;
        /** Null in a vector, where the place itself is the key. */
        final int[] plainKeys;
        final int[] plainElements;

        Value(int kind, Node top, int size, int[] plainKeys, int[] plainElements) {
            this.kind = kind;
            this.top = top;
            this.size = size;
            this.plainKeys = plainKeys;
            this.plainElements = plainElements;
        }

        boolean isLiveVector() {
            return kind == VECTOR || kind == OPEN;
        }

        int plainSlotOf(int key) {
            if (plainKeys == null) {
                return key >= 0 && key < size && key < plainElements.length ? key : NONE;
            }
            for (int i = 0; i < plainKeys.length; i++) {
                if (plainKeys[i] == key) {
                    return i;
                }
            }
            return NONE;
        }

        int plainKeyAt(int slot) {
            return plainKeys == null || slot < 0 || slot >= plainKeys.length ? NONE : plainKeys[slot];
        }

        int plainElementAt(int slot) {
            return slot < 0 || slot >= plainElements.length ? 0 : plainElements[slot];
        }

        void putPlain(int slot, int element) {
            if (slot >= 0 && slot < plainElements.length) {
                plainElements[slot] = element;
            }
        }

        void putPlainPair(int slot, int key, int element) {
            putPlain(slot, element);
            if (slot >= 0 && plainKeys != null && slot < plainKeys.length) {
                plainKeys[slot] = key;
            }
        }

        void spend() {
            kind = SPENT;
            top = null;
            size = 0;
        }
    }

    /** A node of a vector (elements or nodes below) or of a map (keys, elements and nodes below). */
    private static final class Node {
        final int level;
        /** The number of the open vector that may change it, or NOBODY. */
        final int owner;
        final int[] keys;
        final int[] elements;
        final Node[] below;
        /** How many keys of a map are in it and below it. */
        int keyCount = 0;
        int mark = 0;

        Node(int level, int owner, int[] keys, int[] elements, Node[] below) {
            this.level = level;
            this.owner = owner;
            this.keys = keys;
            this.elements = elements;
            this.below = below;
        }

        Node childAt(int place) {
            return below == null || place < 0 || place >= below.length ? null : below[place];
        }

        void putChild(int place, Node child) {
            if (below != null && place >= 0 && place < below.length) {
                below[place] = child;
            }
        }

        int elementAt(int slot) {
            return elements == null || slot < 0 || slot >= elements.length ? 0 : elements[slot];
        }

        void putElement(int slot, int element) {
            if (elements != null && slot >= 0 && slot < elements.length) {
                elements[slot] = element;
            }
        }

        int keyAt(int slot) {
            return keys == null || slot < 0 || slot >= keys.length ? NONE : keys[slot];
        }

        void putPair(int slot, int key, int element) {
            if (keys != null && slot >= 0 && slot < keys.length) {
                keys[slot] = key;
                putElement(slot, element);
            }
        }

        int slotOf(int key) {
            if (level < ROW_LEVEL) {
                int place = MapWork.placeOf(key, level);
                return keyAt(place) == key ? place : NONE;
            }
            for (int i = 0; i < keyCount; i++) {
                if (keyAt(i) == key) {
                    return i;
                }
            }
            return NONE;
        }
    }

    /** Makes all nodes, so that none is left out of the count. */
    private static final class NodeMaker {
        long count = 0;

        Node freshLeaf(int owner) {
            count++;
            return new Node(0, owner, null, new int[BRANCHES], null);
        }

        Node freshInner(int owner) {
            count++;
            return new Node(0, owner, null, null, new Node[BRANCHES]);
        }

        Node freshMapNode(int level) {
            count++;
            boolean isRow = level >= ROW_LEVEL;
            int length = isRow ? MOST_KEYS : BRANCHES;
            int[] keys = new int[length];
            Arrays.fill(keys, NONE);
            return new Node(level, NOBODY, keys, new int[length], isRow ? null : new Node[BRANCHES]);
        }

        Node copyOf(Node node, int owner) {
            count++;
            int[] keys = node.keys == null ? null : Arrays.copyOf(node.keys, node.keys.length);
            int[] elements = node.elements == null ? null : Arrays.copyOf(node.elements, node.elements.length);
            Node[] below = node.below == null ? null : new Node[BRANCHES];
            Node copy = new Node(node.level, owner, keys, elements, below);
            for (int i = 0; i < BRANCHES; i++) {
                copy.putChild(i, node.childAt(i));
            }
            copy.keyCount = node.keyCount;
            return copy;
        }

        Node ownOrCopy(Node node, int owner) {
            return owner != NOBODY && node.owner == owner ? node : copyOf(node, owner);
        }
    }

    /** Works on the nodes of vectors; the height of a leaf is 1. */
    private static final class VectorWork {
        static int depthFor(int size) {
            return size <= 4 ? 1 : size <= 16 ? 2 : 3;
        }

        private static int placeAt(int height, int place) {
            return (place >> (2 * (height - 1))) & 3;
        }

        static int elementIn(Node top, int size, int place) {
            Node node = top;
            for (int height = depthFor(size); height > 1 && node != null; height--) {
                node = node.childAt(placeAt(height, place));
            }
            return node == null ? 0 : node.elementAt(placeAt(1, place));
        }

        static Node withOneMore(NodeMaker maker, Node top, int size, int element, int owner) {
            int depth = depthFor(size + 1);
            Node first;
            if (depth > depthFor(size)) {
                first = maker.freshInner(owner);
                first.putChild(0, top);
            } else {
                first = maker.ownOrCopy(top, owner);
            }
            putIn(maker, first, depth, size, element, owner);
            return first;
        }

        static Node withOther(NodeMaker maker, Node top, int size, int place, int element, int owner) {
            Node first = maker.ownOrCopy(top, owner);
            putIn(maker, first, depthFor(size), place, element, owner);
            return first;
        }

        static Node withOneLess(NodeMaker maker, Node top, int size) {
            int left = size - 1;
            if (depthFor(left) < depthFor(size)) {
                return top.childAt(0);
            }
            Node first = maker.copyOf(top, NOBODY);
            Node node = first;
            for (int height = depthFor(size); height > 1; height--) {
                int below = 1 << (2 * (height - 1));
                if ((left & (below - 1)) == 0) {
                    node.putChild(placeAt(height, left), null);
                    return first;
                }
                node = changeableChild(maker, node, height, left, NOBODY);
            }
            node.putElement(placeAt(1, left), 0);
            return first;
        }

        private static void putIn(NodeMaker maker, Node first, int depth, int place, int element, int owner) {
            Node node = first;
            for (int height = depth; height > 1; height--) {
                node = changeableChild(maker, node, height, place, owner);
            }
            node.putElement(placeAt(1, place), element);
        }

        private static Node changeableChild(NodeMaker maker, Node node, int height, int place, int owner) {
            Node child = node.childAt(placeAt(height, place));
            Node changeable;
            if (child != null) {
                changeable = maker.ownOrCopy(child, owner);
            } else {
                changeable = height == 2 ? maker.freshLeaf(owner) : maker.freshInner(owner);
            }
            node.putChild(placeAt(height, place), changeable);
            return changeable;
        }
    }

    /** Works on the nodes of maps. */
    private static final class MapWork {
        static int placeOf(int key, int level) {
            int code = (37 * key ^ key / 8) & 255;
            return (code >> (2 * level)) & 3;
        }

        /** The node from this one on that holds the key, or null. */
        static Node holderOf(Node from, int key) {
            // The mark of an empty place must not pass for a key.
            Node node = key < 0 || key > GREATEST_KEY ? null : from;
            for (int i = 0; i < MOST_NODES_DEEP && node != null; i++) {
                if (node.slotOf(key) != NONE) {
                    return node;
                }
                node = node.childAt(placeOf(key, node.level));
            }
            return null;
        }

        static Node withPair(NodeMaker maker, Node top, int key, int element) {
            int more = holderOf(top, key) == null ? 1 : 0;
            Node first = maker.copyOf(top, NOBODY);
            Node node = first;
            for (int level = 0; level < ROW_LEVEL; level++) {
                int place = placeOf(key, level);
                int there = node.keyAt(place);
                node.keyCount += more;
                if (node.childAt(place) == null && (there == NONE || there == key)) {
                    node.putPair(place, key, element);
                    return first;
                }
                node = changeableChild(maker, node, place);
            }
            int slot = more == 1 ? node.keyCount : node.slotOf(key);
            node.putPair(slot, key, element);
            node.keyCount += more;
            return first;
        }

        private static Node changeableChild(NodeMaker maker, Node node, int place) {
            Node child = node.childAt(place);
            Node changeable = child == null ? lowered(maker, node, place) : maker.copyOf(child, NOBODY);
            node.putPair(place, NONE, 0);
            node.putChild(place, changeable);
            return changeable;
        }

        /** A node of the next level with the only key that the place holds. */
        private static Node lowered(NodeMaker maker, Node node, int place) {
            int key = node.keyAt(place);
            Node lower = maker.freshMapNode(node.level + 1);
            lower.putPair(lower.level < ROW_LEVEL ? placeOf(key, lower.level) : 0, key, node.elementAt(place));
            lower.keyCount = 1;
            return lower;
        }

        static Node withoutKey(NodeMaker maker, Node top, int key) {
            Node first = maker.copyOf(top, NOBODY);
            Node node = first;
            for (int level = 0; level < ROW_LEVEL; level++) {
                int place = placeOf(key, level);
                Node child = node.childAt(place);
                node.keyCount--;
                if (child == null) {
                    node.putPair(place, NONE, 0);
                    return first;
                }
                if (child.keyCount <= 2) {
                    lift(node, place, child, key);
                    return first;
                }
                node = changeableChild(maker, node, place);
            }
            dropFromRow(node, key);
            return first;
        }

        /** Puts into the place the one key that the child keeps; both of its keys are in one node. */
        private static void lift(Node node, int place, Node child, int key) {
            node.putChild(place, null);
            Node holder = holderOf(child, key);
            if (holder == null) {
                return;
            }
            int length = holder.level < ROW_LEVEL ? BRANCHES : holder.keyCount;
            for (int i = 0; i < length; i++) {
                int other = holder.keyAt(i);
                if (other != NONE && other != key) {
                    node.putPair(place, other, holder.elementAt(i));
                }
            }
        }

        private static void dropFromRow(Node row, int key) {
            int slot = row.slotOf(key);
            if (slot == NONE) {
                return;
            }
            row.keyCount--;
            for (int i = slot; i < row.keyCount; i++) {
                row.putPair(i, row.keyAt(i + 1), row.elementAt(i + 1));
            }
            row.putPair(row.keyCount, NONE, 0);
        }
    }

    /**
     * The elements are found when it is made, as its source never changes: only how many chunks
     * count as realised changes later.
     */
    private static final class Sequence {
        final Sequence source;
        final char way;
        final int number;
        final int[] elements = new int[MOST_IN_RANGE];
        int count = 0;
        /** How many elements there are up to the end of each chunk. */
        final int[] ends = new int[MOST_IN_RANGE];
        int chunkCount = 0;
        /** Behind the chunks that are here, one would divide by 0. */
        boolean broken = false;
        int realisedChunks = 0;

        Sequence(Sequence source, char way, int number) {
            this.source = source;
            this.way = way;
            this.number = number;
        }

        void fillRange(int from, int step, int many) {
            for (int i = 0; i < many; i++) {
                takeElement(from + i * step);
                if (count % RANGE_CHUNK == 0 || i == many - 1) {
                    closeChunk();
                }
            }
        }

        void fillFirst() {
            if (source == null) {
                return;
            }
            for (int i = 0; i < source.count && i < number; i++) {
                takeElement(source.elementAt(i));
                closeChunk();
            }
            broken = source.broken && number > source.count;
        }

        void fillByChunks() {
            if (source == null) {
                return;
            }
            for (int chunk = 0; chunk < source.chunkCount; chunk++) {
                int from = source.elementsIn(chunk);
                int to = source.elementsIn(chunk + 1);
                if (way == 'd' && source.hasZero(from, to)) {
                    broken = true;
                    return;
                }
                for (int i = from; i < to; i++) {
                    takeFrom(source.elementAt(i));
                }
                closeChunk();
            }
            broken = source.broken;
        }

        private void takeFrom(int element) {
            if (way == 'a') {
                takeElement(element + number);
            } else if (way == 'd' && element != 0) {
                takeElement(number / element);
            } else if (way == 'k' && number != 0 && element % number == 0) {
                takeElement(element);
            }
        }

        private boolean hasZero(int from, int to) {
            for (int i = from; i < to; i++) {
                if (elementAt(i) == 0) {
                    return true;
                }
            }
            return false;
        }

        int elementAt(int place) {
            return place < 0 || place >= elements.length ? 0 : elements[place];
        }

        private void takeElement(int element) {
            if (count < elements.length) {
                elements[count] = element;
                count++;
            }
        }

        private void closeChunk() {
            if (chunkCount < ends.length) {
                ends[chunkCount] = count;
                chunkCount++;
            }
        }

        int elementsIn(int firstChunks) {
            return firstChunks < 1 || firstChunks > chunkCount ? 0 : ends[firstChunks - 1];
        }

        int chunksFor(int place) {
            int needed = 1;
            while (needed < chunkCount && elementsIn(needed) <= place) {
                needed++;
            }
            return needed;
        }

        /** Tells whether all of this one needs all of its source. */
        boolean endsWithSource() {
            return source != null && (way != 't' || number > source.count);
        }

        /** How many chunks of the source the first ones of this one need; NONE if it is not asked at all. */
        int sourceChunksFor(int firstChunks, boolean wholeSource) {
            if (source == null) {
                return NONE;
            }
            if (wholeSource) {
                return source.chunkCount;
            }
            if (way != 't') {
                return firstChunks;
            }
            return firstChunks == 0 ? NONE : source.chunksFor(firstChunks - 1);
        }
    }

    private static final class Reference {
        final int firstValue;
        final int least;
        final int greatest;
        final int[] pastValues = new int[MOST_HISTORY];
        final int[] pastMoments = new int[MOST_HISTORY];
        int kept = 1;
        int limit = FIRST_LIMIT;

        Reference(int value, int least, int greatest) {
            this.firstValue = value;
            this.least = least;
            this.greatest = greatest;
            pastValues[0] = value;
        }

        int latestValue() {
            return valueAt(kept - 1);
        }

        int latestMoment() {
            return momentAt(kept - 1);
        }

        int valueAt(int entry) {
            return entry < 0 || entry >= pastValues.length ? firstValue : pastValues[entry];
        }

        private int momentAt(int entry) {
            return entry < 0 || entry >= pastMoments.length ? 0 : pastMoments[entry];
        }

        int entryNotBehind(int point) {
            for (int i = kept - 1; i >= 0; i--) {
                if (momentAt(i) <= point) {
                    return i;
                }
            }
            return NONE;
        }

        void raiseLimit() {
            limit = Math.min(limit + 1, MOST_HISTORY);
        }

        void come(int value, int moment) {
            if (kept >= limit) {
                dropOldest();
            }
            if (kept < MOST_HISTORY) {
                pastValues[kept] = value;
                pastMoments[kept] = moment;
                kept++;
            }
        }

        private void dropOldest() {
            for (int i = 1; i < kept && i < MOST_HISTORY; i++) {
                pastValues[i - 1] = pastValues[i];
                pastMoments[i - 1] = pastMoments[i];
            }
            kept--;
        }
    }

    private static final class Transaction {
        boolean running = false;
        /** Rises from one transaction to the next younger one. */
        int birth = 0;
        int point = 0;
        int timesBack = 0;
        final boolean[] written = new boolean[MOST_REFERENCES];
        final int[] own = new int[MOST_REFERENCES];
        final boolean[] ensured = new boolean[MOST_REFERENCES];
        final boolean[] adding = new boolean[MOST_REFERENCES];
        final int[] sums = new int[MOST_REFERENCES];
        /**
         * One row for each agent: the order between agents does not matter, and what is more than
         * a row would be lost at the agent, too.
         */
        final WaitingRow[] outgoing = new WaitingRow[MOST_AGENTS];

        Transaction() {
            for (int i = 0; i < MOST_AGENTS; i++) {
                outgoing[i] = new WaitingRow();
            }
        }

        void start(int birth, int moment) {
            running = true;
            this.birth = birth;
            point = moment;
            timesBack = 0;
        }

        void goBack(int moment) {
            forget();
            point = moment;
            timesBack++;
        }

        void stop() {
            forget();
            running = false;
        }

        private void forget() {
            for (int i = 0; i < MOST_REFERENCES; i++) {
                written[i] = false;
                ensured[i] = false;
                adding[i] = false;
                sums[i] = 0;
            }
            for (WaitingRow row : outgoing) {
                row.count = 0;
            }
        }

        boolean holds(int reference, boolean ensuredCounts) {
            return written[reference] || ensuredCounts && ensured[reference];
        }

        boolean changes(int reference) {
            return written[reference] || adding[reference];
        }
    }

    private static final class LogEntry {
        final int cameIn;
        final int reference;
        final int before;
        final int after;

        LogEntry(int cameIn, int reference, int before, int after) {
            this.cameIn = cameIn;
            this.reference = reference;
            this.before = before;
            this.after = after;
        }
    }

    /** A row of numbers; what does not fit is lost. */
    private static final class WaitingRow {
        private final int[] numbers = new int[MOST_WAITING];
        int count = 0;

        void lineUp(int number) {
            if (count < numbers.length) {
                numbers[count] = number;
                count++;
            }
        }

        void lineUpAll(WaitingRow other) {
            for (int i = 0; i < other.count && i < other.numbers.length; i++) {
                lineUp(other.numbers[i]);
            }
        }

        int takeFirst() {
            int first = numbers[0];
            for (int i = 1; i < count && i < numbers.length; i++) {
                numbers[i - 1] = numbers[i];
            }
            count = Math.max(count - 1, 0);
            return first;
        }
    }

    private static final class Agent {
        int value;
        final int least;
        final int greatest;
        final boolean failsOnError;
        final WaitingRow waiting = new WaitingRow();
        int errorCount = 0;
        boolean failed = false;

        Agent(int value, int least, int greatest, boolean failsOnError) {
            this.value = value;
            this.least = least;
            this.greatest = greatest;
            this.failsOnError = failsOnError;
        }

        void takeNumber() {
            int result = value + waiting.takeFirst();
            if (isWithin(result, least, greatest)) {
                value = result;
                return;
            }
            errorCount++;
            failed = failsOnError;
        }
    }
}
