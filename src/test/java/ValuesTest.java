import java.util.NoSuchElementException;

/** Promises 1 to 22 and 50: vectors, open vectors, maps and their nodes. */
public final class ValuesTest {
    private static final Class<IndexOutOfBoundsException> INDEX = IndexOutOfBoundsException.class;
    private static final Class<IllegalArgumentException> ARGUMENT = IllegalArgumentException.class;
    private static final Class<UnsupportedOperationException> UNSUPPORTED = UnsupportedOperationException.class;
    private static final Class<NoSuchElementException> MISSING = NoSuchElementException.class;
    private static final Class<IllegalStateException> STATE = IllegalStateException.class;

    private ValuesTest() {
    }

    public static void main(String[] args) {
        aNewObject();
        vector();
        append();
        set();
        cut();
        depth();
        open();
        appendTo();
        setIn();
        makeLasting();
        isOpen();
        map();
        put();
        without();
        getAndGetPlain();
        levelOf();
        sizeAndNodes();
        shared();
        areSame();
        made();
        sharing();
        Check.finish();
    }

    /** A lasting vector 1, 2, 3 .. of this size, made as the last one of several values. */
    private static int grown(PersistentParlour p, int size) {
        int opened = p.open(p.vector());
        for (int i = 1; i <= size; i++) {
            p.appendTo(opened, i);
        }
        return p.makeLasting(opened);
    }

    private static int withKeys(PersistentParlour p, int... keys) {
        int value = p.map();
        for (int key : keys) {
            value = p.put(value, key, key % 100);
        }
        return value;
    }

    private static PersistentParlour full() {
        PersistentParlour p = new PersistentParlour();
        p.append(p.vector(), 5);
        p.put(p.map(), 7, 8);
        p.open(1);
        for (int i = 5; i < 60; i++) {
            p.vector();
        }
        return p;
    }

    private static void aNewObject() {
        PersistentParlour p = new PersistentParlour();
        Check.same("made of a new one", p.made(), 0L);
        Check.refuses("size(0) of a new one", INDEX, () -> p.size(0));
        Check.refuses("chunks(0) of a new one", INDEX, () -> p.chunks(0));
        Check.refuses("valueOf(0) of a new one", INDEX, () -> p.valueOf(0));
        Check.refuses("errors(0) of a new one", INDEX, () -> p.errors(0));
        Check.same("moment of a new one", p.moment(), 0);
        Check.same("logged of a new one", p.logged(), 0);
        Check.same("first value", p.vector(), 0);
        Check.same("first value of another", new PersistentParlour().map(), 0);
    }

    private static void vector() {
        PersistentParlour p = new PersistentParlour();
        Check.same("vector", p.vector(), 0);
        Check.same("vector again", p.vector(), 1);
        Check.same("its size", p.size(1), 0);
        Check.same("its nodes", p.nodes(1), 1);
        Check.same("two empty ones share", p.shared(0, 1), 0);
        for (int i = 2; i < 60; i++) {
            Check.same("vector " + i, p.vector(), i);
        }
        Check.refuses("vector 60", STATE, p::vector);
        Check.same("made by a refused one", p.made(), 60L);
    }

    private static void append() {
        PersistentParlour p = new PersistentParlour();
        int empty = p.vector();
        int one = p.append(empty, -999);
        int two = p.append(one, 999);
        Check.same("number", two, 2);
        Check.same("first", p.get(two, 0), -999);
        Check.same("second", p.get(two, 1), 999);
        Check.same("second, plain", p.getPlain(two, 1), 999);
        Check.same("size", p.size(two), 2);
        Check.same("the old one stays", p.size(one), 1);
        Check.same("no node shared", p.shared(one, two), 0);
        appendSharesNodes();
        appendRefuses();
    }

    private static void appendSharesNodes() {
        PersistentParlour p = new PersistentParlour();
        int four = grown(p, 4);
        long made = p.made();
        int five = p.append(four, 5);
        Check.same("5th makes a top and a leaf", p.made() - made, 2L);
        Check.same("5th keeps the former top", p.shared(four, five), 1);
        int six = p.append(five, 6);
        Check.same("6th keeps the first leaf", p.shared(five, six), 1);
        int sixteen = grown(p, 16);
        made = p.made();
        int seventeen = p.append(sixteen, 17);
        Check.same("17th makes three", p.made() - made, 3L);
        Check.same("17th keeps all former ones", p.shared(sixteen, seventeen), 5);
        Check.same("17 have nodes", p.nodes(seventeen), 8);
        int eighteen = p.append(seventeen, 18);
        Check.same("18th keeps the first half", p.shared(seventeen, eighteen), 5);
        int most = grown(p, 64);
        Check.same("64 have nodes", p.nodes(most), 21);
        Check.same("the last of 64", p.get(most, 63), 64);
    }

    private static void appendRefuses() {
        PersistentParlour p = new PersistentParlour();
        int vector = p.vector();
        int map = p.map();
        int opened = p.open(vector);
        int most = grown(p, 64);
        Check.refuses("no such value", INDEX, () -> p.append(-1, 1000));
        Check.refuses("value behind the last", INDEX, () -> p.append(most + 1, 0));
        Check.refuses("1000 to a map", ARGUMENT, () -> p.append(map, 1000));
        Check.refuses("-1000", ARGUMENT, () -> p.append(vector, -1000));
        Check.refuses("to a map", UNSUPPORTED, () -> p.append(map, 0));
        Check.refuses("to an open one", UNSUPPORTED, () -> p.append(opened, 0));
        Check.refuses("to 64", UNSUPPORTED, () -> p.append(most, 0));
        Check.same("nothing is made", p.append(vector, 1), most + 1);
        PersistentParlour f = full();
        Check.refuses("60 values, 1000", ARGUMENT, () -> f.append(1, 1000));
        Check.refuses("60 values, a map", UNSUPPORTED, () -> f.append(3, 1));
        Check.refuses("60 values", STATE, () -> f.append(1, 1));
        Check.same("none made in 60 values", f.made(), 59L);
    }

    private static void set() {
        PersistentParlour p = new PersistentParlour();
        int nine = grown(p, 9);
        long made = p.made();
        int other = p.set(nine, 8, -5);
        Check.same("changed", p.get(other, 8), -5);
        Check.same("changed, plain", p.getPlain(other, 8), -5);
        Check.same("the old one stays", p.get(nine, 8), 9);
        Check.same("beside it", p.get(other, 7), 8);
        Check.same("nodes made", p.made() - made, 2L);
        Check.same("nodes shared", p.shared(nine, other), 2);
        int same = p.set(nine, 3, 4);
        Check.same("the same element makes no node", p.made() - made, 2L);
        Check.same("and shares all", p.shared(nine, same), 4);
        Check.same("but is another value", same, other + 1);
        int most = grown(p, 64);
        Check.same("a path of three", p.shared(most, p.set(most, 21, 0)), 18);
        int map = p.map();
        int opened = p.open(nine);
        Check.refuses("no such value", INDEX, () -> p.set(99, 0, 1000));
        Check.refuses("1000", ARGUMENT, () -> p.set(map, 0, 1000));
        Check.refuses("a map", UNSUPPORTED, () -> p.set(map, 99, 0));
        Check.refuses("an open one", UNSUPPORTED, () -> p.set(opened, 0, 0));
        Check.refuses("place 9 of 9", MISSING, () -> p.set(nine, 9, 0));
        Check.refuses("place -1", MISSING, () -> p.set(nine, -1, 0));
        PersistentParlour f = full();
        Check.refuses("60 values, no place", MISSING, () -> f.set(1, 1, 5));
        Check.refuses("60 values", STATE, () -> f.set(1, 0, 5));
    }

    private static void cut() {
        PersistentParlour p = new PersistentParlour();
        int one = p.append(p.vector(), 3);
        int none = p.cut(one);
        Check.same("cut to none", p.size(none), 0);
        Check.same("none has a node", p.nodes(none), 1);
        Check.same("a node of its own", p.shared(one, none), 0);
        checkCut(p, 5, 0, 1, 1);
        checkCut(p, 6, 2, 3, 1);
        checkCut(p, 9, 1, 3, 2);
        checkCut(p, 17, 0, 5, 5);
        checkCut(p, 21, 2, 8, 6);
        checkCut(p, 33, 1, 11, 10);
        checkCut(p, 64, 3, 21, 18);
        Check.refuses("no such value", INDEX, () -> p.cut(-1));
        int map = p.map();
        int opened = p.open(none);
        Check.refuses("a map", UNSUPPORTED, () -> p.cut(map));
        Check.refuses("an open one", UNSUPPORTED, () -> p.cut(opened));
        Check.refuses("an empty one", MISSING, () -> p.cut(none));
        PersistentParlour f = full();
        Check.refuses("60 values, an empty one", MISSING, () -> f.cut(0));
        Check.refuses("60 values", STATE, () -> f.cut(1));
    }

    private static void checkCut(PersistentParlour p, int size, long made, int nodes, int shared) {
        int whole = grown(p, size);
        long before = p.made();
        int less = p.cut(whole);
        Check.same("made by the cut of " + size, p.made() - before, made);
        Check.same("nodes behind the cut of " + size, p.nodes(less), nodes);
        Check.same("shared behind the cut of " + size, p.shared(whole, less), shared);
        Check.same("size behind the cut of " + size, p.size(less), size - 1);
        Check.same("last behind the cut of " + size, p.get(less, size - 2), size - 1);
        Check.same("the whole one of " + size, p.get(whole, size - 1), size);
        Check.same("appended again to " + size, p.areSame(p.append(less, size), whole), true);
    }

    private static void depth() {
        PersistentParlour p = new PersistentParlour();
        int[] sizes = {0, 4, 5, 16, 17, 64};
        int[] due = {1, 1, 2, 2, 3, 3};
        for (int i = 0; i < sizes.length; i++) {
            Check.same("depth of " + sizes[i], p.depth(grown(p, sizes[i])), due[i]);
        }
        int opened = p.open(grown(p, 16));
        Check.same("open", p.depth(opened), 2);
        p.appendTo(opened, 0);
        Check.same("open, deeper", p.depth(opened), 3);
        p.makeLasting(opened);
        int map = p.map();
        Check.refuses("no such value", INDEX, () -> p.depth(60));
        Check.refuses("a map", UNSUPPORTED, () -> p.depth(map));
        Check.refuses("one made lasting", UNSUPPORTED, () -> p.depth(opened));
    }

    private static void open() {
        PersistentParlour p = new PersistentParlour();
        int five = grown(p, 5);
        long made = p.made();
        int opened = p.open(five);
        Check.same("number", opened, five + 1);
        Check.same("no node is made", p.made(), made);
        Check.same("all nodes are the same", p.shared(five, opened), 3);
        Check.same("element", p.get(opened, 4), 5);
        p.setIn(opened, 4, 0);
        Check.same("the lasting one stays", p.get(five, 4), 5);
        int map = p.map();
        Check.refuses("no such value", INDEX, () -> p.open(-5));
        Check.refuses("a map", UNSUPPORTED, () -> p.open(map));
        Check.refuses("an open one", UNSUPPORTED, () -> p.open(opened));
        PersistentParlour f = full();
        Check.refuses("60 values, a map", UNSUPPORTED, () -> f.open(3));
        Check.refuses("60 values", STATE, () -> f.open(0));
    }

    private static void appendTo() {
        PersistentParlour p = new PersistentParlour();
        int opened = p.open(p.vector());
        int[] due = new int[64];
        due[0] = 1;
        for (int i = 4; i < 64; i += 4) {
            due[i] = i == 4 ? 2 : i == 16 ? 3 : i % 16 == 0 ? 2 : 1;
        }
        for (int i = 0; i < 64; i++) {
            Check.same("made by appending behind " + i, p.appendTo(opened, i), due[i]);
        }
        Check.same("made in all", p.made(), 22L);
        Check.same("last", p.get(opened, 63), 63);
        Check.refuses("full", UNSUPPORTED, () -> p.appendTo(opened, 0));
        int five = grown(p, 5);
        int again = p.open(five);
        Check.same("replaces a leaf and the top", p.appendTo(again, 6), 2);
        Check.same("in place", p.appendTo(again, 7), 0);
        Check.same("keeps the first leaf", p.shared(five, again), 1);
        Check.same("plain", p.getPlain(again, 6), 7);
        int map = p.map();
        Check.refuses("no such value", INDEX, () -> p.appendTo(60, 1000));
        Check.refuses("1000", ARGUMENT, () -> p.appendTo(map, 1000));
        Check.refuses("1000 to a full one", ARGUMENT, () -> p.appendTo(opened, -1000));
        Check.refuses("a map", UNSUPPORTED, () -> p.appendTo(map, 0));
        Check.refuses("a lasting one", UNSUPPORTED, () -> p.appendTo(five, 0));
        PersistentParlour f = full();
        Check.same("60 values do not matter", f.appendTo(4, 1), 1);
    }

    private static void setIn() {
        PersistentParlour p = new PersistentParlour();
        int most = grown(p, 64);
        int opened = p.open(most);
        Check.same("nothing changes", p.setIn(opened, 0, 1), 0);
        Check.same("so all is shared", p.shared(most, opened), 21);
        Check.same("a path of three", p.setIn(opened, 0, 5), 3);
        Check.same("in place", p.setIn(opened, 1, 5), 0);
        Check.same("a leaf beside", p.setIn(opened, 4, 0), 1);
        Check.same("a leaf further away", p.setIn(opened, 16, 0), 2);
        Check.same("shared now", p.shared(most, opened), 15);
        Check.same("element", p.get(opened, 16), 0);
        Check.same("plain element", p.getPlain(opened, 16), 0);
        Check.same("the lasting one stays", p.get(most, 16), 17);
        int lasting = p.makeLasting(opened);
        int again = p.open(lasting);
        Check.same("no node is its own again", p.setIn(again, 0, 6), 3);
        Check.same("made lasting, it stays", p.get(lasting, 0), 5);
        int map = p.map();
        Check.refuses("no such value", INDEX, () -> p.setIn(60, 0, 1000));
        Check.refuses("1000", ARGUMENT, () -> p.setIn(map, 0, 1000));
        Check.refuses("a map", UNSUPPORTED, () -> p.setIn(map, 0, 0));
        Check.refuses("one made lasting", UNSUPPORTED, () -> p.setIn(opened, 99, 0));
        Check.refuses("place 64", MISSING, () -> p.setIn(again, 64, 0));
        Check.refuses("place -1", MISSING, () -> p.setIn(again, -1, 0));
    }

    private static void makeLasting() {
        PersistentParlour p = new PersistentParlour();
        int five = grown(p, 5);
        int opened = p.open(five);
        p.appendTo(opened, 6);
        long made = p.made();
        int lasting = p.makeLasting(opened);
        Check.same("number", lasting, opened + 1);
        Check.same("no node is made", p.made(), made);
        Check.same("size", p.size(lasting), 6);
        Check.same("element", p.getPlain(lasting, 5), 6);
        Check.same("shares with what was opened", p.shared(five, lasting), 1);
        Check.same("can be appended to", p.size(p.append(lasting, 7)), 7);
        Check.same("the spent one has no elements", p.size(opened), 0);
        Check.same("the spent one has no nodes", p.nodes(opened), 0);
        Check.same("the spent one shares none", p.shared(opened, lasting), 0);
        Check.refuses("no such value", INDEX, () -> p.makeLasting(60));
        Check.refuses("a lasting one", UNSUPPORTED, () -> p.makeLasting(five));
        Check.refuses("a spent one", UNSUPPORTED, () -> p.makeLasting(opened));
        PersistentParlour f = full();
        Check.refuses("60 values, a lasting one", UNSUPPORTED, () -> f.makeLasting(0));
        Check.refuses("60 values", STATE, () -> f.makeLasting(4));
        Check.same("which is open still", f.isOpen(4), true);
    }

    private static void isOpen() {
        PersistentParlour p = new PersistentParlour();
        int vector = p.vector();
        int map = p.map();
        int opened = p.open(vector);
        Check.same("lasting", p.isOpen(vector), false);
        Check.same("map", p.isOpen(map), false);
        Check.same("open", p.isOpen(opened), true);
        p.makeLasting(opened);
        Check.same("spent", p.isOpen(opened), false);
        Check.refuses("no such value", INDEX, () -> p.isOpen(4));
        Check.refuses("no such value", INDEX, () -> p.isOpen(-1));
    }

    private static void map() {
        PersistentParlour p = new PersistentParlour();
        Check.same("number", p.map(), 0);
        Check.same("size", p.size(0), 0);
        Check.same("nodes", p.nodes(0), 1);
        Check.same("made", p.made(), 1L);
        Check.refuses("60 values", STATE, () -> full().map());
    }

    /** The codes of 0 and 256 part at level 2; those of 1, 360 and 485 are the same; that of 4 is in 0's place at the top. */
    private static void put() {
        PersistentParlour p = new PersistentParlour();
        int empty = p.map();
        int one = p.put(empty, 0, 5);
        Check.same("one pair in the top", p.nodes(one), 1);
        Check.same("the old one stays", p.size(empty), 0);
        long made = p.made();
        int two = p.put(one, 256, 6);
        Check.same("two lower nodes", p.made() - made, 3L);
        Check.same("nodes", p.nodes(two), 3);
        int other = p.put(two, 256, 7);
        Check.same("another element", p.get(other, 256), 7);
        Check.same("in place of the old one", p.size(other), 2);
        Check.same("a path of three", p.made() - made, 6L);
        int same = p.put(other, 256, 7);
        Check.same("the same element makes no node", p.made() - made, 6L);
        Check.same("and shares all", p.shared(other, same), 3);
        int beside = p.put(two, 4, 1);
        Check.same("a node below stays", p.shared(two, beside), 1);
        int row = withKeys(p, 1, 360, 485);
        Check.same("a row at level 4", p.nodes(row), 5);
        Check.same("its last key", p.get(row, 485), 85);
        Check.same("its first key", p.get(row, 1), 1);
        int changed = p.put(row, 360, -1);
        Check.same("changed in a row", p.get(changed, 360), -1);
        Check.same("not in the old row", p.get(row, 360), 60);
        Check.same("size of the row", p.size(changed), 3);
        putRefuses();
    }

    private static void putRefuses() {
        PersistentParlour p = new PersistentParlour();
        int vector = p.vector();
        int[] keys = new int[40];
        for (int i = 0; i < 40; i++) {
            keys[i] = i * 25;
        }
        int most = withKeys(p, keys);
        Check.same("size of the fullest", p.size(most), 40);
        for (int key : keys) {
            Check.same("key " + key, p.get(most, key), key % 100);
        }
        Check.refuses("no such value", INDEX, () -> p.put(60, 1000, 0));
        Check.refuses("key 1000", ARGUMENT, () -> p.put(vector, 1000, 0));
        Check.refuses("key -1", ARGUMENT, () -> p.put(most, -1, 0));
        Check.refuses("element 1000", ARGUMENT, () -> p.put(vector, 0, 1000));
        Check.refuses("element -1000", ARGUMENT, () -> p.put(most, 1, -1000));
        Check.refuses("a vector", UNSUPPORTED, () -> p.put(vector, 0, 0));
        Check.refuses("40 other keys", UNSUPPORTED, () -> p.put(most, 1, 0));
        Check.same("one of the 40 keys", p.get(p.put(most, 975, 0), 975), 0);
        PersistentParlour f = full();
        Check.refuses("60 values, key 1000", ARGUMENT, () -> f.put(3, 1000, 0));
        Check.refuses("60 values, a vector", UNSUPPORTED, () -> f.put(1, 1, 0));
        Check.refuses("60 values", STATE, () -> f.put(3, 7, 8));
    }

    private static void without() {
        PersistentParlour p = new PersistentParlour();
        int three = withKeys(p, 0, 256, 4);
        long made = p.made();
        int two = p.without(three, 256);
        Check.same("the lowest node is gone", p.nodes(two), 2);
        Check.same("two made", p.made() - made, 2L);
        Check.same("0 moves up", p.levelOf(two, 0), 1);
        Check.same("the old one stays", p.get(three, 256), 56);
        int one = p.without(two, 4);
        Check.same("only the top", p.nodes(one), 1);
        Check.same("0 is in the top", p.levelOf(one, 0), 0);
        int none = p.without(one, 0);
        Check.same("none", p.size(none), 0);
        Check.same("a top is always there", p.nodes(none), 1);
        int below = p.without(three, 4);
        Check.same("a node below stays", p.shared(three, below), 1);
        int row = p.without(withKeys(p, 1, 360, 485), 360);
        Check.same("two stay in the row", p.nodes(row), 5);
        Check.same("in it", p.levelOf(row, 485), 4);
        Check.same("with its element", p.get(row, 485), 85);
        Check.refuses("the other one is gone", MISSING, () -> p.get(row, 360));
        Check.refuses("from the plain rows, too", MISSING, () -> p.getPlain(row, 360));
        Check.same("and can come again", p.get(p.put(row, 360, 7), 360), 7);
        int longer = p.without(withKeys(p, 1, 360, 485, 570), 1);
        Check.same("of four, three stay", p.get(longer, 360) + p.get(longer, 485) + p.get(longer, 570), 60 + 85 + 70);
        Check.same("of three, two stay", p.get(p.without(longer, 570), 485), 85);
        made = p.made();
        int alone = p.without(row, 1);
        Check.same("the row is gone", p.nodes(alone), 1);
        Check.same("one made", p.made() - made, 1L);
        Check.same("element", p.get(alone, 485), 85);
        Check.same("plain element", p.getPlain(alone, 485), 85);
        withoutBesideARow(p);
        int vector = p.vector();
        Check.refuses("no such value", INDEX, () -> p.without(60, 0));
        Check.refuses("a vector", UNSUPPORTED, () -> p.without(vector, 0));
        Check.refuses("no such key", MISSING, () -> p.without(alone, 1));
        Check.refuses("key -1", MISSING, () -> p.without(alone, -1));
        PersistentParlour f = full();
        Check.refuses("60 values, no key", MISSING, () -> f.without(3, 8));
        Check.refuses("60 values", STATE, () -> f.without(3, 7));
    }

    /** The code of 58 parts from that of the others at level 3 only. */
    private static void withoutBesideARow(PersistentParlour p) {
        int four = withKeys(p, 1, 360, 58, 485);
        int three = p.without(four, 1);
        Check.same("the row stays", p.levelOf(three, 360), 4);
        int two = p.without(three, 360);
        Check.same("the row is gone", p.levelOf(two, 485), 3);
        Check.same("its level stays", p.levelOf(two, 58), 3);
        Check.same("nodes", p.nodes(two), 4);
        int again = p.put(two, 360, 3);
        Check.same("a row again", p.levelOf(again, 485), 4);
        Check.same("it was not changed", p.nodes(two), 4);
        int one = p.without(p.without(again, 360), 485);
        Check.same("at the top", p.levelOf(one, 58), 0);
        Check.same("of the row, none stays", p.size(one), 1);
    }

    private static void getAndGetPlain() {
        PersistentParlour p = new PersistentParlour();
        int vector = grown(p, 20);
        int opened = p.open(vector);
        int map = withKeys(p, 3, 1, 360);
        for (int i = 0; i < 20; i++) {
            Check.same("get " + i, p.get(vector, i), i + 1);
            Check.same("getPlain " + i, p.getPlain(vector, i), i + 1);
            Check.same("get of the open one " + i, p.get(opened, i), i + 1);
            Check.same("getPlain of the open one " + i, p.getPlain(opened, i), i + 1);
        }
        Check.same("key", p.get(map, 360), 60);
        Check.same("key, plain", p.getPlain(map, 360), 60);
        int[] missing = {20, -1, 64, 1000, Integer.MIN_VALUE, Integer.MAX_VALUE};
        for (int key : missing) {
            Check.refuses("get of a vector " + key, MISSING, () -> p.get(vector, key));
            Check.refuses("getPlain of a vector " + key, MISSING, () -> p.getPlain(vector, key));
            Check.refuses("get of an open one " + key, MISSING, () -> p.get(opened, key));
            Check.refuses("getPlain of an open one " + key, MISSING, () -> p.getPlain(opened, key));
            Check.refuses("get of a map " + key, MISSING, () -> p.get(map, key));
            Check.refuses("getPlain of a map " + key, MISSING, () -> p.getPlain(map, key));
        }
        p.makeLasting(opened);
        Check.refuses("get of a spent one", MISSING, () -> p.get(opened, 0));
        Check.refuses("getPlain of a spent one", MISSING, () -> p.getPlain(opened, 0));
        Check.refuses("get of no value", INDEX, () -> p.get(-1, 0));
        Check.refuses("getPlain of no value", INDEX, () -> p.getPlain(60, 0));
    }

    private static void levelOf() {
        PersistentParlour p = new PersistentParlour();
        int map = withKeys(p, 0, 256, 4, 1, 360);
        Check.same("0", p.levelOf(map, 0), 2);
        Check.same("256", p.levelOf(map, 256), 2);
        Check.same("4", p.levelOf(map, 4), 1);
        Check.same("1", p.levelOf(map, 1), 4);
        Check.same("360", p.levelOf(map, 360), 4);
        Check.same("alone in the top", p.levelOf(withKeys(p, 999), 999), 0);
        int vector = grown(p, 3);
        Check.refuses("no such value", INDEX, () -> p.levelOf(60, 0));
        Check.refuses("a vector", UNSUPPORTED, () -> p.levelOf(vector, 0));
        Check.refuses("no such key", MISSING, () -> p.levelOf(map, 485));
        Check.refuses("key -1", MISSING, () -> p.levelOf(map, -1));
    }

    private static void sizeAndNodes() {
        PersistentParlour p = new PersistentParlour();
        int[] sizes = {0, 1, 4, 5, 9, 16, 17, 21, 33, 64};
        int[] due = {1, 1, 1, 3, 4, 5, 8, 9, 13, 21};
        for (int i = 0; i < sizes.length; i++) {
            int value = grown(p, sizes[i]);
            Check.same("size of " + sizes[i], p.size(value), sizes[i]);
            Check.same("nodes of " + sizes[i], p.nodes(value), due[i]);
        }
        Check.same("nodes of a map", p.nodes(withKeys(p, 0, 256, 4, 1, 360)), 7);
        Check.same("size of a map", p.size(withKeys(p, 0, 256, 4, 1, 360)), 5);
        int opened = p.open(0);
        p.appendTo(opened, 1);
        Check.same("size of an open one", p.size(opened), 1);
        Check.refuses("size of no value", INDEX, () -> p.size(60));
        Check.refuses("nodes of no value", INDEX, () -> p.nodes(-1));
    }

    private static void shared() {
        PersistentParlour p = new PersistentParlour();
        int nine = grown(p, 9);
        int ten = p.append(nine, 10);
        int map = withKeys(p, 0, 256, 4);
        Check.same("with itself", p.shared(nine, nine), 4);
        Check.same("with the next", p.shared(nine, ten), 2);
        Check.same("the other way", p.shared(ten, nine), 2);
        Check.same("again", p.shared(ten, nine), 2);
        Check.same("with a map", p.shared(ten, map), 0);
        Check.same("with one of the same elements", p.shared(nine, grown(p, 9)), 0);
        Check.refuses("first", INDEX, () -> p.shared(60, 0));
        Check.refuses("second", INDEX, () -> p.shared(0, -1));
    }

    private static void areSame() {
        PersistentParlour p = new PersistentParlour();
        int first = grown(p, 6);
        int second = grown(p, 6);
        int opened = p.open(first);
        Check.same("same elements", p.areSame(first, second), true);
        Check.same("an open one", p.areSame(opened, second), true);
        Check.same("itself", p.areSame(first, first), true);
        Check.same("another last", p.areSame(first, p.set(second, 5, 0)), false);
        Check.same("another first", p.areSame(first, p.set(second, 0, 0)), false);
        Check.same("shorter", p.areSame(first, p.cut(second)), false);
        int map = withKeys(p, 1, 360, 0);
        Check.same("maps in another order", p.areSame(map, withKeys(p, 0, 360, 1)), true);
        Check.same("another key", p.areSame(map, withKeys(p, 0, 485, 1)), false);
        Check.same("another element", p.areSame(map, p.put(map, 0, 9)), false);
        Check.same("fewer keys", p.areSame(map, withKeys(p, 0, 1)), false);
        Check.same("an empty vector and an empty map", p.areSame(p.vector(), p.map()), false);
        p.makeLasting(opened);
        Check.refuses("a spent one", MISSING, () -> p.areSame(opened, map));
        Check.refuses("a spent one behind", MISSING, () -> p.areSame(map, opened));
        Check.refuses("a spent one twice", MISSING, () -> p.areSame(opened, opened));
        Check.refuses("first", INDEX, () -> p.areSame(60, opened));
        Check.refuses("second", INDEX, () -> p.areSame(opened, 60));
    }

    private static void made() {
        PersistentParlour p = new PersistentParlour();
        p.vector();
        p.map();
        Check.same("two", p.made(), 2L);
        p.append(0, 1);
        Check.same("three", p.made(), 3L);
        p.collect(p.range(1, 1, 24));
        Check.same("a vector of 24", p.made(), 12L);
    }

    private static void sharing() {
        PersistentParlour p = new PersistentParlour();
        Check.refuses("no values", MISSING, p::sharing);
        int one = p.append(p.vector(), 1);
        Check.same("all different", p.sharing(), 1.0f);
        p.set(one, 0, 1);
        Check.same("two of three", p.sharing(), 2.0f / 3.0f);
        int opened = p.open(one);
        Check.same("two of four", p.sharing(), 0.5f);
        p.setIn(opened, 0, 2);
        Check.same("three of four", p.sharing(), 0.75f);
        p.makeLasting(opened);
        Check.same("a spent one counts nothing", p.sharing(), 0.75f);
    }
}
