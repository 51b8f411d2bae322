/** Promises 12 to 17, and what stands under Maps. */
final class MapBoundaries {
    private static final String NO_VALUE = "Throws `IndexOutOfBoundsException` if there is no such value";
    private static final String NO_MAP = "Throws `UnsupportedOperationException` if the value is no map";
    private static final String NO_KEY = "Throws `NoSuchElementException` if it does not have the key";
    private static final String NO_KEY_OR_PLACE = "Throws `NoSuchElementException` if there is no such key or place, "
            + "or the value is an open one that was made lasting";
    private static final String SIXTY = "Throws `IllegalStateException` if there are 60 values";
    /** With the key 0, whose code is 0: each of them parts from it at the level that is its place here. */
    private static final int[] PARTING = {1, 4, 13, 59, 118};
    /** All keys of one code. */
    private static final int[] ALIKE = {1, 360, 485, 570, 695, 716, 723};

    private MapBoundaries() {
    }

    static void tell() {
        map();
        put();
        putRefuses();
        without();
        withoutRefuses();
        get("get");
        get("getPlain");
        getRefuses("get", 15);
        getRefuses("getPlain", 16);
        levelOf();
        keys();
        codes();
        rows();
        places();
        nodesHold();
        nodesShared();
    }

    /** The maps 0 to 40: the map with the number n has the keys 0 to n - 1, each with itself as its element. */
    private static String[] forty() {
        String[] calls = new String[41];
        calls[0] = "map()";
        for (int i = 0; i < 40; i++) {
            calls[i + 1] = "put(" + i + ", " + i + ", " + i + ")";
        }
        return calls;
    }

    /** Maps with one more of these keys each, from the empty one, which is the value 0, on. */
    private static String[] withKeys(int... keys) {
        String[] calls = new String[keys.length + 1];
        calls[0] = "map()";
        for (int i = 0; i < keys.length; i++) {
            calls[i + 1] = "put(" + i + ", " + keys[i] + ", " + (i + 1) + ")";
        }
        return calls;
    }

    private static void map() {
        Story.promise(12, "Makes an empty map.")
                .answers("map()", 0).answers("size(0)", 0).answers("nodes(0)", 1).answers("made()", 1L).answers("isOpen(0)", false)
                .refuses(Story.MISSING, "get(0, 0)", "getPlain(0, 0)", "get(0, -1)", "getPlain(0, -1)", "levelOf(0, 0)", "without(0, 0)")
                .refuses(Story.UNSUPPORTED, "append(0, 1)", "depth(0)", "open(0)");
        Story numbers = Story.promise(12, "Returns its number.");
        for (int i = 0; i < 60; i++) {
            numbers.answers("map()", i);
        }
        Story.promise(12, SIXTY)
                .after(Story.repeated("map()", 0, 58)).answers("map()", 59).refuses(Story.STATE, "map()", "map()")
                .answers("made()", 60L).refuses(Story.INDEX, "size(60)");
    }

    private static void put() {
        String places = "Makes a map with an element for a key, in place of another one.";
        for (int other : PARTING) {
            Story.promise(13, places)
                    .after("map()", "put(0, 0, 5)").answers("put(1, " + other + ", 6)", 2).answers("put(2, 0, 7)", 3)
                    .answers("put(3, " + other + ", 8)", 4).answers("size(2)", 2).answers("size(3)", 2).answers("size(4)", 2)
                    .answersEach(7, "get(3, 0)", "getPlain(3, 0)", "get(4, 0)", "getPlain(4, 0)")
                    .answersEach(8, "get(4, " + other + ")", "getPlain(4, " + other + ")")
                    .answersEach(6, "get(3, " + other + ")", "getPlain(3, " + other + ")", "get(2, " + other + ")")
                    .answersEach(5, "get(2, 0)", "get(1, 0)", "getPlain(1, 0)").answers("size(1)", 1).answers("size(0)", 0);
        }
        Story numbers = Story.promise(13, "Returns its number.").answers("map()", 0);
        for (int i = 1; i < 60; i++) {
            numbers.answers("put(" + (i - 1) + ", " + i % 20 + ", " + i + ")", i);
        }
        numbers.answers("size(59)", 20).answers("get(59, 19)", 59).answers("get(59, 0)", 40).answers("getPlain(59, 0)", 40)
                .answers("get(20, 0)", 20).answers("size(20)", 20).answers("size(19)", 19);
    }

    private static void putRefuses() {
        Story.promise(13, NO_VALUE)
                .refuses(Story.INDEX, "put(0, 0, 1)").after("map()")
                .refuses(Story.INDEX, "put(1, 0, 1)", "put(-1, 0, 1)", "put(MAX, 0, 1)", "put(MIN, 0, 1)")
                .answers("put(0, 0, 1)", 1).answers("put(1, 0, 2)", 2);
        Story.promise(13, "Throws `IllegalArgumentException` if the key is not from 0 to 999, or the element is not from -999 to 999")
                .after("map()").answers("put(0, 0, -999)", 1).answers("put(1, 999, 999)", 2)
                .refuses(Story.ARGUMENT, "put(2, -1, 0)", "put(2, 1000, 0)", "put(2, MIN, 0)", "put(2, MAX, 0)", "put(2, 0, -1000)",
                        "put(2, 999, 1000)", "put(2, 5, MIN)", "put(2, 5, MAX)", "put(2, -1, 1000)")
                .answers("get(2, 0)", -999).answers("getPlain(2, 0)", -999).answers("get(2, 999)", 999).answers("getPlain(2, 999)", 999)
                .answers("size(2)", 2);
        Story.promise(13, "Throws `UnsupportedOperationException` if the value is no map, or has 40 other keys")
                .after(forty()).answers("size(39)", 39).answers("size(40)", 40)
                .refuses(Story.UNSUPPORTED, "put(40, 40, 0)", "put(40, 999, 0)", "put(40, 118, 0)")
                .answers("put(40, 39, -1)", 41).answers("put(41, 0, -2)", 42).answers("size(42)", 40).answers("get(42, 0)", -2)
                .answers("get(42, 39)", -1).answers("put(39, 999, 5)", 43).answers("size(43)", 40)
                .refuses(Story.UNSUPPORTED, "put(43, 39, 0)").answers("without(40, 7)", 44).answers("put(44, 40, 3)", 45)
                .refuses(Story.UNSUPPORTED, "put(45, 7, 0)").answers("get(45, 40)", 3)
                .answers("vector()", 46).answers("open(46)", 47).answers("open(46)", 48).answers("makeLasting(48)", 49)
                .refuses(Story.UNSUPPORTED, "put(46, 0, 1)", "put(47, 0, 1)", "put(48, 0, 1)", "put(49, 0, 1)");
        Story.promise(13, SIXTY)
                .after(Story.repeated("map()", 0, 58)).answers("put(0, 1, 1)", 59)
                .refuses(Story.STATE, "put(0, 1, 1)", "put(59, 1, 1)", "put(59, 2, 1)").answers("made()", 60L);
        Story.listedFirst(13)
                .after(forty()).after("vector()")
                .refuses(Story.INDEX, "put(42, 1000, 0)", "put(-1, 0, 1000)", "put(42, -1, 1000)")
                .refuses(Story.ARGUMENT, "put(41, 1000, 0)", "put(41, 0, 1000)", "put(40, -1, 0)", "put(40, 40, -1000)")
                .after(Story.repeated("vector()", 42, 59))
                .refuses(Story.INDEX, "put(60, 0, 0)", "put(60, -1, 0)").refuses(Story.ARGUMENT, "put(0, 1000, 0)", "put(0, 0, 1000)")
                .refuses(Story.UNSUPPORTED, "put(40, 40, 0)", "put(41, 0, 0)")
                .refuses(Story.STATE, "put(40, 39, 0)", "put(40, 39, 39)", "put(39, 39, 0)");
    }

    private static void without() {
        for (int other : PARTING) {
            Story.promise(14, "Makes a map without a key.")
                    .after("map()", "put(0, 0, 5)", "put(1, " + other + ", 6)").answers("without(2, 0)", 3)
                    .answers("without(2, " + other + ")", 4).answers("size(3)", 1).answers("size(4)", 1).answers("size(2)", 2)
                    .answersEach(6, "get(3, " + other + ")", "getPlain(3, " + other + ")").answersEach(5, "get(4, 0)", "getPlain(4, 0)")
                    .refuses(Story.MISSING, "get(3, 0)", "getPlain(3, 0)", "get(4, " + other + ")", "getPlain(4, " + other + ")",
                            "levelOf(3, 0)")
                    .answers("levelOf(3, " + other + ")", 0).answers("areSame(4, 1)", true).answers("put(3, 0, 5)", 5)
                    .answers("areSame(5, 2)", true).answers("areSame(2, 5)", true);
        }
        Story numbers = Story.promise(14, "Returns its number.").after(withKeys(0, 1, 4, 13, 59, 118, 361, 479));
        int[] order = {118, 0, 59, 479, 1, 4, 361, 13};
        for (int i = 0; i < order.length; i++) {
            numbers.answers("without(" + (8 + i) + ", " + order[i] + ")", 9 + i).answers("size(" + (9 + i) + ")", 7 - i)
                    .refuses(Story.MISSING, "get(" + (9 + i) + ", " + order[i] + ")", "getPlain(" + (9 + i) + ", " + order[i] + ")");
        }
        numbers.answers("nodes(16)", 1).answers("get(15, 13)", 4);
        Story.promise(14, "Returns its number.").after("map()", "put(0, 0, 1)").after(Story.repeated("map()", 2, 58))
                .answers("without(1, 0)", 59);
    }

    private static void withoutRefuses() {
        Story.promise(14, NO_VALUE)
                .refuses(Story.INDEX, "without(0, 0)").after("map()", "put(0, 0, 1)")
                .refuses(Story.INDEX, "without(2, 0)", "without(-1, 0)", "without(MAX, 0)", "without(MIN, 0)").answers("without(1, 0)", 2);
        Story.promise(14, NO_MAP)
                .after(Story.grown(1)).after("open(2)", "map()", "put(4, 0, 1)")
                .refuses(Story.UNSUPPORTED, "without(0, 0)", "without(1, 0)", "without(2, 0)", "without(3, 0)").answers("without(5, 0)", 6);
        Story.promise(14, NO_KEY)
                .after("map()", "put(0, 0, 1)", "put(1, 118, 2)")
                .refuses(Story.MISSING, "without(2, 361)", "without(2, 1)", "without(2, -1)", "without(2, 1000)", "without(2, MIN)",
                        "without(2, MAX)", "without(1, 118)", "without(0, 0)")
                .answers("without(2, 118)", 3).refuses(Story.MISSING, "without(3, 118)").answers("without(3, 0)", 4)
                .refuses(Story.MISSING, "without(4, 0)");
        Story.promise(14, NO_KEY)
                .after("map()", "put(0, 999, 1)").refuses(Story.MISSING, "without(1, 998)", "without(1, 1000)").answers("without(1, 999)", 2);
        Story.promise(14, SIXTY)
                .after("map()", "put(0, 0, 1)").after(Story.repeated("map()", 2, 58)).answers("without(1, 0)", 59)
                .refuses(Story.STATE, "without(1, 0)").answers("made()", 60L);
        Story.listedFirst(14)
                .after(Story.grown(1)).after("open(2)", "map()", "put(4, 0, 1)")
                .refuses(Story.INDEX, "without(6, -1)", "without(-1, 0)")
                .refuses(Story.UNSUPPORTED, "without(0, 0)", "without(1, -1)", "without(2, 5)", "without(3, 1000)")
                .after(Story.repeated("vector()", 6, 59))
                .refuses(Story.INDEX, "without(60, 0)", "without(60, -1)").refuses(Story.UNSUPPORTED, "without(2, 0)", "without(3, 5)")
                .refuses(Story.MISSING, "without(5, 1)", "without(4, 0)").refuses(Story.STATE, "without(5, 0)");
    }

    private static void get(String name) {
        int promise = name.equals("get") ? 15 : 16;
        String said = name.equals("get") ? "Returns the element of a key, or at a place of a vector, open or not."
                : "Returns the same, from a plain row that is kept beside.";
        for (int size : new int[] {1, 4, 5, 16, 17, 64}) {
            Story story = Story.promise(promise, said).after(Story.grown(size)).after("open(2)");
            for (int i = 0; i < size; i++) {
                story.answers(name + "(2, " + i + ")", i + 1).answers(name + "(3, " + i + ")", i + 1);
            }
            story.refuses(Story.MISSING, name + "(2, " + size + ")", name + "(3, " + size + ")", name + "(2, -1)", name + "(3, -1)")
                    .after("setIn(3, " + (size - 1) + ", -5)").answers(name + "(3, " + (size - 1) + ")", -5);
        }
        Story.promise(promise, "- `key`: the key, or the place in a vector")
                .after("vector()", "append(0, 7)", "open(1)", "map()", "put(3, 1, 8)", "put(4, 999, 9)")
                .answers(name + "(1, 0)", 7).answers(name + "(2, 0)", 7).answers(name + "(5, 1)", 8).answers(name + "(5, 999)", 9)
                .refuses(Story.MISSING, name + "(1, 1)", name + "(2, 1)", name + "(5, 0)", name + "(5, 2)", name + "(5, 998)",
                        name + "(1, 999)");
        Story.promise(promise, "Returns the element.")
                .after("map()", "put(0, 0, -999)", "put(1, 999, 999)", "put(2, 118, 1)", "put(3, 59, 2)")
                .answers(name + "(4, 0)", -999).answers(name + "(4, 999)", 999).answers(name + "(4, 118)", 1)
                .answers(name + "(4, 59)", 2).answers(name + "(1, 0)", -999);
        Story fullest = Story.promise(promise, "Returns the element.").after(forty());
        for (int i = 0; i < 40; i++) {
            fullest.answers(name + "(40, " + i + ")", i);
        }
        fullest.refuses(Story.MISSING, name + "(40, 40)", name + "(39, 39)");
    }

    private static void getRefuses(String name, int promise) {
        Story.promise(promise, NO_VALUE)
                .refuses(Story.INDEX, name + "(0, 0)").after("vector()", "append(0, 1)")
                .refuses(Story.INDEX, name + "(2, 0)", name + "(-1, 0)", name + "(MAX, 0)", name + "(MIN, 0)")
                .answers(name + "(1, 0)", 1).after(Story.repeated("append(0, 9)", 2, 59)).answers(name + "(59, 0)", 9)
                .refuses(Story.INDEX, name + "(60, 0)");
        Story.promise(promise, NO_KEY_OR_PLACE)
                .after(Story.grown(2)).after("open(2)", "map()", "put(4, 1, 7)", "put(5, 360, 8)")
                .answers(name + "(2, 1)", 2).answers(name + "(3, 1)", 2).answers(name + "(5, 1)", 7).answers(name + "(6, 360)", 8)
                .refuses(Story.MISSING, name + "(2, 2)", name + "(2, -1)", name + "(3, 2)", name + "(3, -1)", name + "(5, 0)",
                        name + "(5, 2)", name + "(6, 485)", name + "(5, 360)", name + "(4, 1)", name + "(6, -1)", name + "(6, 1000)",
                        name + "(6, MIN)", name + "(6, MAX)", name + "(2, MIN)", name + "(2, MAX)", name + "(2, 64)", name + "(3, 64)",
                        name + "(1, 0)", name + "(1, -1)", name + "(0, 0)")
                .after("makeLasting(3)").refuses(Story.MISSING, name + "(3, 0)", name + "(3, 1)", name + "(3, 2)")
                .answers(name + "(7, 1)", 2);
        Story.listedFirst(promise)
                .after("vector()").refuses(Story.INDEX, name + "(1, -1)", name + "(-1, 5)").refuses(Story.MISSING, name + "(0, -1)");
    }

    private static void levelOf() {
        Story.promise(17, "Returns the level of the node that holds a key of a map.")
                .after("map()", "put(0, 0, 1)").answers("levelOf(1, 0)", 0).after("put(1, 118, 2)").answers("levelOf(2, 0)", 4)
                .answers("levelOf(2, 118)", 4).after("put(2, 1, 3)").answers("levelOf(3, 1)", 0).after("put(3, 4, 3)")
                .answers("levelOf(4, 4)", 1).after("put(4, 13, 3)").answers("levelOf(5, 13)", 2).after("put(5, 59, 3)")
                .answers("levelOf(6, 59)", 3).answers("levelOf(6, 0)", 4).answers("levelOf(6, 1)", 0).answers("levelOf(1, 0)", 0);
        for (int level = 0; level <= 4; level++) {
            int other = PARTING[level];
            Story.promise(17, "Returns the level, 0 to 4.")
                    .after("map()", "put(0, 0, 1)", "put(1, " + other + ", 2)").answers("levelOf(2, 0)", level)
                    .answers("levelOf(2, " + other + ")", level).after("without(2, 0)").answers("levelOf(3, " + other + ")", 0);
        }
        Story.promise(17, NO_VALUE)
                .refuses(Story.INDEX, "levelOf(0, 0)").after("map()", "put(0, 0, 1)")
                .refuses(Story.INDEX, "levelOf(2, 0)", "levelOf(-1, 0)", "levelOf(MAX, 0)", "levelOf(MIN, 0)").answers("levelOf(1, 0)", 0);
        Story.promise(17, NO_MAP)
                .after(Story.grown(1)).after("open(2)").refuses(Story.UNSUPPORTED, "levelOf(0, 0)", "levelOf(1, 0)", "levelOf(2, 0)",
                        "levelOf(3, 0)").after("map()", "put(4, 0, 1)").answers("levelOf(5, 0)", 0);
        Story.promise(17, NO_KEY)
                .after("map()", "put(0, 0, 1)", "put(1, 118, 2)", "without(2, 0)")
                .refuses(Story.MISSING, "levelOf(0, 0)", "levelOf(1, 118)", "levelOf(2, 361)", "levelOf(2, 1)", "levelOf(2, -1)",
                        "levelOf(2, 1000)", "levelOf(2, MIN)", "levelOf(2, MAX)", "levelOf(3, 0)")
                .answers("levelOf(3, 118)", 0);
        Story.listedFirst(17)
                .after("vector()", "open(0)", "map()").refuses(Story.INDEX, "levelOf(3, 0)", "levelOf(-1, -1)")
                .refuses(Story.UNSUPPORTED, "levelOf(0, 0)", "levelOf(0, -1)", "levelOf(1, 1000)").refuses(Story.MISSING, "levelOf(2, 0)");
    }

    private static void keys() {
        String said = "A map has keys from 0 to 999, each with an element, at most 40 of them.";
        Story.term("Maps", "13, 15, 16", said)
                .after("map()").refuses(Story.ARGUMENT, "put(0, -1, 1)", "put(0, 1000, 1)").answers("put(0, 0, 1)", 1)
                .answers("put(1, 1, 2)", 2).answers("put(2, 998, 3)", 3).answers("put(3, 999, 4)", 4).answers("size(4)", 4)
                .answers("get(4, 0)", 1).answers("get(4, 1)", 2).answers("get(4, 998)", 3).answers("get(4, 999)", 4)
                .refuses(Story.MISSING, "get(4, -1)", "get(4, 1000)", "get(4, 2)", "get(4, 997)");
        Story.term("Maps", "13, 14, 18", said)
                .after(forty()).answers("size(40)", 40).answers("get(40, 39)", 39).refuses(Story.UNSUPPORTED, "put(40, 40, 0)")
                .answers("without(40, 0)", 41).answers("put(41, 40, 0)", 42).refuses(Story.UNSUPPORTED, "put(42, 0, 0)");
        int[] last = {118, 361, 479, 722};
        Story fullest = Story.term("Maps", "13 to 16", said).after(forty()).after("without(40, 1)", "without(41, 2)", "without(42, 3)");
        for (int i = 0; i < 3; i++) {
            fullest.answers("put(" + (43 + i) + ", " + last[i] + ", -" + i + ")", 44 + i);
        }
        fullest.refuses(Story.UNSUPPORTED, "put(46, 722, 0)").answers("size(46)", 40).answers("levelOf(46, 0)", 4)
                .answers("get(46, 479)", -2).answers("get(46, 118)", 0).answers("getPlain(46, 361)", -1).answers("get(46, 0)", 0);
    }

    private static int code(int key) {
        return Math.floorMod(37 * key ^ key / 8, 256);
    }

    private static int partingLevel(int key, int other) {
        int level = 0;
        for (int divisor = 4; level < 4 && code(key) % divisor == code(other) % divisor; divisor *= 4) {
            level++;
        }
        return level;
    }

    /** Each key beside another one: at what level both part is told by their codes alone. */
    private static void codes() {
        for (int key : new int[] {0, 1, 998, 999}) {
            int other = 0;
            while (other < 1000) {
                Story story = Story.term("Maps", "17", "The code of a key k is the lower 8 bits of the exclusive or of 37 times k "
                        + "and of k divided by 8.").after("map()", "put(0, " + key + ", 1)");
                for (int value = 2; value < 60 && other < 1000; other++) {
                    if (other != key) {
                        story.answers("put(1, " + other + ", 2)", value).answers("levelOf(" + value + ", " + other + ")", partingLevel(key, other));
                        value++;
                    }
                }
            }
        }
        String[] levels = {"levelOf(2, 0)", "levelOf(2, 8)", "levelOf(2, 7)", "levelOf(2, 256)", "levelOf(2, 512)"};
        int[] others = {8, 8, 7, 256, 512};
        int[] due = {0, 0, 0, 2, 3};
        for (int i = 0; i < others.length; i++) {
            Story.term("Maps", "17", "The code of a key k is the lower 8 bits of the exclusive or of 37 times k and of k divided by 8.")
                    .after("map()", "put(0, 0, 1)", "put(1, " + others[i] + ", 2)").answers(levels[i], due[i]);
        }
    }

    private static void rows() {
        String said = "A node of a map at the level 0, the top, to 3 has four places, of which a key uses the one with the number that "
                + "the bits 2 times the level and 1 more of its code tell; at the level 4, a node has all of its keys in a row, in the "
                + "order in which they came into it.";
        int[] codes = {0, 1, 2, 3};
        int[] steps = {1, 4, 16, 64};
        for (int level = 0; level < 4; level++) {
            int[] keys = new int[4];
            for (int place : codes) {
                keys[place] = keyOfCode(place * steps[level]);
            }
            Story story = Story.term("Maps", "13, 17, 19", said).after(withKeys(keys)).answers("nodes(4)", level + 1);
            for (int key : keys) {
                story.answers("levelOf(4, " + key + ")", level);
            }
        }
        Story row = Story.term("Maps", "13 to 17, 19", said).after(withKeys(ALIKE)).answers("nodes(7)", 5);
        for (int i = 0; i < ALIKE.length; i++) {
            row.answers("levelOf(7, " + ALIKE[i] + ")", 4).answers("get(7, " + ALIKE[i] + ")", i + 1)
                    .answers("getPlain(7, " + ALIKE[i] + ")", i + 1);
        }
        row.answers("put(7, 485, -3)", 8).answers("without(8, 1)", 9).answers("put(9, 1, -1)", 10).answers("size(10)", 7)
                .answers("get(10, 485)", -3).answers("get(10, 1)", -1).answers("get(10, 723)", 7).answers("nodes(10)", 5)
                .answers("without(10, 723)", 11).answers("get(11, 716)", 6).answers("without(11, 570)", 12).answers("get(12, 360)", 2)
                .answers("get(12, 695)", 5).answers("get(12, 716)", 6).answers("get(12, 1)", -1).answers("without(12, 1)", 13)
                .answers("without(13, 360)", 14).answers("without(14, 695)", 15).answers("nodes(15)", 5).answers("size(15)", 2)
                .answers("without(15, 485)", 16).answers("nodes(16)", 1).answers("get(16, 716)", 6).answers("levelOf(16, 716)", 0)
                .answers("get(7, 485)", 3).answers("get(7, 1)", 1);
    }

    private static int keyOfCode(int code) {
        int key = 0;
        while (code(key) != code) {
            key++;
        }
        return key;
    }

    private static void places() {
        String said = "A place of a node holds nothing, if no key of the map uses it there; a key with its element, if it is the only "
                + "one; or else a node of the next level for all of them.";
        for (int level = 0; level <= 4; level++) {
            int other = PARTING[level];
            Story.term("Maps", "13, 14, 17, 19", said)
                    .after(withKeys(0, other)).answers("nodes(0)", 1).answers("nodes(1)", 1).answers("nodes(2)", level + 1)
                    .answers("made()", 2L + level + 1).answers("without(2, 0)", 3).answers("nodes(3)", 1)
                    .answers("levelOf(3, " + other + ")", 0).answers("made()", 4L + level).answers("shared(1, 3)", 0);
        }
        Story.term("Maps", "13, 14, 17, 19", said)
                .after(withKeys(0, 118, 361)).answers("nodes(3)", 5).answers("without(3, 361)", 4).answers("nodes(4)", 5)
                .answers("without(4, 118)", 5).answers("nodes(5)", 1).answers("put(3, 59, 7)", 6).answers("nodes(6)", 5)
                .answers("levelOf(6, 59)", 3).answers("without(6, 0)", 7).answers("nodes(7)", 5).answers("without(7, 361)", 8)
                .answers("nodes(8)", 4).answers("levelOf(8, 118)", 3).answers("levelOf(8, 59)", 3).answers("get(8, 118)", 2)
                .answers("get(8, 59)", 7).answers("without(8, 118)", 9).answers("nodes(9)", 1).answers("levelOf(9, 59)", 0)
                .answers("get(9, 59)", 7);
        Story.term("Maps", "13, 14, 17, 19", said)
                .after(withKeys(0, 4, 13, 59, 118)).answers("nodes(5)", 5).answers("levelOf(5, 4)", 1).answers("levelOf(5, 13)", 2)
                .answers("levelOf(5, 59)", 3).answers("levelOf(5, 118)", 4).answers("without(5, 118)", 6).answers("nodes(6)", 4)
                .answers("levelOf(6, 0)", 3).answers("without(6, 59)", 7).answers("nodes(7)", 3).answers("levelOf(7, 0)", 2)
                .answers("without(7, 13)", 8).answers("nodes(8)", 2).answers("levelOf(8, 0)", 1).answers("without(8, 4)", 9)
                .answers("nodes(9)", 1).answers("levelOf(9, 0)", 0).answers("areSame(9, 1)", true);
        Story.term("Maps", "13, 14, 17, 19", said)
                .after(withKeys(0, 4, 13, 59, 118)).answers("without(5, 4)", 6).answers("nodes(6)", 5).answers("without(6, 13)", 7)
                .answers("nodes(7)", 5).answers("without(7, 59)", 8).answers("nodes(8)", 5).answers("without(8, 0)", 9)
                .answers("nodes(9)", 1).answers("get(9, 118)", 5);
    }

    private static void nodesHold() {
        String said = "A node of a level 0 to 3 holds what its places hold; a top is always there.";
        Story.term("Maps", "12, 14, 19", said)
                .answers("map()", 0).answers("nodes(0)", 1).answers("put(0, 5, 1)", 1).answers("nodes(1)", 1).answers("levelOf(1, 5)", 0)
                .answers("without(1, 5)", 2).answers("nodes(2)", 1).answers("size(2)", 0).answers("shared(1, 2)", 0)
                .answers("shared(0, 2)", 0).answers("made()", 3L).answers("areSame(0, 2)", true).answers("put(2, 5, 1)", 3)
                .answers("areSame(1, 3)", true);
        Story.term("Maps", "13, 17, 19", said)
                .after(withKeys(0, 1, 2, 3, 4, 9, 18)).answers("nodes(7)", 2)
                .answersEach(0, "levelOf(7, 1)", "levelOf(7, 2)", "levelOf(7, 3)")
                .answersEach(1, "levelOf(7, 0)", "levelOf(7, 4)", "levelOf(7, 9)", "levelOf(7, 18)");
    }

    /** A node below the top stays the same one as long as nothing changes in it or below it. */
    private static void nodesShared() {
        String sentence = "When a value is made from another one, it has the same nodes as this one wherever nothing changes in a "
                + "node or below it; all others are made.";
        Story.term("Nodes", "13, 14, 20, 22", sentence)
                .after(withKeys(0, 118)).answers("made()", 7L).answers("put(2, 1, 3)", 3).answers("shared(2, 3)", 4).answers("made()", 8L)
                .answers("put(3, 4, 3)", 4).answers("shared(3, 4)", 3).answers("made()", 10L).answers("put(4, 13, 3)", 5)
                .answers("shared(4, 5)", 2).answers("made()", 13L).answers("put(5, 59, 3)", 6).answers("shared(5, 6)", 1)
                .answers("made()", 17L).answers("put(6, 361, 3)", 7).answers("shared(6, 7)", 0).answers("made()", 22L)
                .answers("without(7, 1)", 8).answers("shared(7, 8)", 4).answers("made()", 23L).answers("without(8, 4)", 9)
                .answers("shared(8, 9)", 3).answers("made()", 25L).answers("without(9, 13)", 10).answers("shared(9, 10)", 2)
                .answers("made()", 28L).answers("without(10, 59)", 11).answers("shared(10, 11)", 1).answers("made()", 32L)
                .answers("without(11, 361)", 12).answers("shared(11, 12)", 0).answers("made()", 37L).answers("without(12, 0)", 13)
                .answers("nodes(13)", 1).answers("made()", 38L);
        Story.term("Nodes", "13, 14, 20, 22", sentence)
                .after(withKeys(0, 118, 1, 360)).answers("nodes(4)", 9).answers("made()", 13L).answers("put(4, 1, 9)", 5)
                .answers("shared(4, 5)", 4).answers("put(4, 0, 9)", 6).answers("shared(4, 6)", 4).answers("shared(5, 6)", 0)
                .answers("without(4, 1)", 7).answers("shared(4, 7)", 4).answers("nodes(7)", 5).answers("made()", 24L);
    }
}
