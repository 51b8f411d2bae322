/** Promises 1 to 6, and what stands under Values, Nodes and Vectors. */
final class VectorBoundaries {
    private static final String NO_VALUE = "Throws `IndexOutOfBoundsException` if there is no such value";
    private static final String NO_ELEMENT = "Throws `IllegalArgumentException` if the element is not from -999 to 999";
    private static final String NO_VECTOR = "Throws `UnsupportedOperationException` if the value is no lasting vector";
    private static final String SIXTY = "Throws `IllegalStateException` if there are 60 values";

    private VectorBoundaries() {
    }

    static void tell() {
        aNewObject();
        vector();
        append();
        appendRefuses();
        set();
        setRefuses();
        cut();
        cutRefuses();
        depth();
        values();
        nodes();
        elementsOfVectors();
        nodesOfVectors();
    }

    private static void aNewObject() {
        Story.promise(1, "Creates a parlour without values, sequences, references and agents.")
                .refuses(Story.INDEX, "size(0)", "chunks(0)", "valueOf(0)", "errors(0)", "logAt(0, 0)")
                .refuses(Story.MISSING, "sharing()")
                .answers("made()", 0L).answersEach(0, "moment()", "logged()", "sentBack(0)", "sentBack(1)", "sentBack(2)")
                .answersEach(0, "vector()", "range(0, 0, 0)", "addReference(0, 0, 0)", "addAgent(0, 0, 0, 'f')");
    }

    private static void vector() {
        Story.promise(2, "Makes an empty vector.")
                .answers("vector()", 0).answers("size(0)", 0).answers("nodes(0)", 1).answers("depth(0)", 1)
                .answers("isOpen(0)", false).refuses(Story.MISSING, "get(0, 0)", "getPlain(0, 0)", "get(0, -1)", "cut(0)")
                .answers("append(0, 7)", 1).answers("get(1, 0)", 7);
        Story numbers = Story.promise(2, "Returns its number.");
        for (int i = 0; i < 60; i++) {
            numbers.answers("vector()", i);
        }
        Story.promise(2, SIXTY)
                .after(Story.repeated("vector()", 0, 58)).answers("vector()", 59)
                .refuses(Story.STATE, "vector()", "vector()").answers("made()", 60L).refuses(Story.INDEX, "size(60)");
    }

    private static void append() {
        Story.promise(3, "Makes a vector with one more element behind the others.")
                .answers("vector()", 0).answers("append(0, 5)", 1).answers("append(1, 6)", 2)
                .answers("size(2)", 2).answers("get(2, 0)", 5).answers("get(2, 1)", 6).answers("getPlain(2, 1)", 6)
                .refuses(Story.MISSING, "get(2, 2)", "getPlain(2, 2)", "get(1, 1)")
                .answers("size(0)", 0).answers("size(1)", 1).answers("isOpen(2)", false);
        Story numbers = Story.promise(3, "Returns its number.").answers("vector()", 0);
        for (int i = 1; i < 60; i++) {
            numbers.answers("append(" + (i - 1) + ", " + i + ")", i);
        }
        numbers.answers("size(59)", 59).answers("get(59, 58)", 59).answers("get(59, 0)", 1);
        for (int size = 0; size < 64; size++) {
            Story.promise(3, "Makes a vector with one more element behind the others.")
                    .after(Story.grown(size)).answers("append(2, -7)", 3).answers("size(3)", size + 1)
                    .answers("get(3, " + size + ")", -7).answers("getPlain(3, " + size + ")", -7)
                    .answers("size(2)", size).refuses(Story.MISSING, "get(2, " + size + ")", "getPlain(2, " + size + ")");
        }
    }

    private static void appendRefuses() {
        Story.promise(3, NO_VALUE)
                .refuses(Story.INDEX, "append(0, 1)").after("vector()")
                .refuses(Story.INDEX, "append(1, 1)", "append(-1, 1)", "append(MAX, 1)", "append(MIN, 1)", "append(60, 1)")
                .answers("append(0, 1)", 1).answers("append(1, 1)", 2);
        Story.promise(3, NO_ELEMENT)
                .after("vector()").answers("append(0, -999)", 1).answers("append(1, 999)", 2)
                .refuses(Story.ARGUMENT, "append(2, -1000)", "append(2, 1000)", "append(2, MIN)", "append(2, MAX)")
                .answers("get(2, 0)", -999).answers("getPlain(2, 0)", -999).answers("get(2, 1)", 999).answers("getPlain(2, 1)", 999);
        Story.promise(3, "Throws `UnsupportedOperationException` if the value is no lasting vector, or has 64 elements")
                .after(Story.grown(63)).answers("append(2, 64)", 3).answers("size(3)", 64)
                .refuses(Story.UNSUPPORTED, "append(3, 65)", "append(1, 0)")
                .answers("map()", 4).answers("open(0)", 5).refuses(Story.UNSUPPORTED, "append(4, 0)", "append(5, 0)")
                .answers("cut(3)", 6).answers("append(6, 65)", 7).refuses(Story.UNSUPPORTED, "append(7, 66)");
        Story.promise(3, SIXTY)
                .after(Story.repeated("vector()", 0, 58)).answers("append(58, 1)", 59)
                .refuses(Story.STATE, "append(0, 1)", "append(59, 1)").answers("made()", 60L);
        Story.listedFirst(3)
                .after(Story.grown(64)).after("map()", "open(0)")
                .refuses(Story.INDEX, "append(5, 1000)", "append(-1, -1000)")
                .refuses(Story.ARGUMENT, "append(3, 1000)", "append(4, -1000)", "append(1, 1000)", "append(2, 1000)")
                .after(Story.repeated("vector()", 5, 59))
                .refuses(Story.INDEX, "append(60, 0)", "append(60, 1000)", "append(-1, 0)")
                .refuses(Story.ARGUMENT, "append(0, 1000)", "append(3, -1000)")
                .refuses(Story.UNSUPPORTED, "append(3, 0)", "append(4, 0)", "append(1, 0)", "append(2, 0)")
                .refuses(Story.STATE, "append(0, 0)");
    }

    private static void set() {
        Story.promise(4, "Makes a vector with another element at a place.")
                .after(Story.grown(5)).answers("set(2, 0, -1)", 3).answers("set(3, 4, -5)", 4)
                .answers("get(4, 0)", -1).answers("get(4, 1)", 2).answers("get(4, 3)", 4).answers("get(4, 4)", -5)
                .answers("getPlain(4, 0)", -1).answers("getPlain(4, 1)", 2).answers("getPlain(4, 4)", -5)
                .answers("size(4)", 5).answers("get(2, 0)", 1).answers("get(3, 4)", 5).answers("get(2, 4)", 5)
                .answers("isOpen(4)", false);
        Story numbers = Story.promise(4, "Returns its number.").after("vector()", "append(0, 0)");
        for (int i = 2; i < 60; i++) {
            numbers.answers("set(" + (i - 1) + ", 0, " + i + ")", i);
        }
        numbers.answers("get(59, 0)", 59).answers("get(2, 0)", 2);
    }

    private static void setRefuses() {
        Story.promise(4, NO_VALUE)
                .refuses(Story.INDEX, "set(0, 0, 1)").after("vector()", "append(0, 1)")
                .refuses(Story.INDEX, "set(2, 0, 1)", "set(-1, 0, 1)", "set(MAX, 0, 1)", "set(MIN, 0, 1)")
                .answers("set(1, 0, 2)", 2).answers("set(2, 0, 3)", 3);
        Story.promise(4, NO_ELEMENT)
                .after("vector()", "append(0, 1)").answers("set(1, 0, 999)", 2).answers("set(2, 0, -999)", 3)
                .refuses(Story.ARGUMENT, "set(1, 0, 1000)", "set(1, 0, -1000)", "set(1, 0, MAX)", "set(1, 0, MIN)")
                .answers("get(2, 0)", 999).answers("getPlain(2, 0)", 999).answers("get(3, 0)", -999).answers("getPlain(3, 0)", -999);
        Story.promise(4, NO_VECTOR)
                .after(Story.grown(1)).after("map()", "put(3, 0, 5)", "open(2)")
                .refuses(Story.UNSUPPORTED, "set(4, 0, 1)", "set(5, 0, 2)", "set(1, 0, 1)", "set(3, 0, 1)")
                .answers("set(2, 0, 2)", 6);
        String noPlace = "Throws `NoSuchElementException` if there is no such place";
        Story.promise(4, "- `place`: the place, from 0")
                .after(Story.grown(3)).answers("set(2, 0, 9)", 3).answers("get(3, 0)", 9).refuses(Story.MISSING, "set(2, -1, 9)")
                .answers("set(2, 2, 9)", 4).answers("get(4, 2)", 9).refuses(Story.MISSING, "set(2, 3, 9)");
        Story.promise(4, noPlace).after("vector()").refuses(Story.MISSING, "set(0, 0, 1)", "set(0, -1, 1)", "set(0, 1, 1)");
        for (int size : new int[] {1, 3, 4, 5, 16, 17, 20, 63, 64}) {
            Story.promise(4, noPlace)
                    .after(Story.grown(size)).answers("set(2, 0, -1)", 3).answers("set(2, " + (size - 1) + ", -2)", 4)
                    .refuses(Story.MISSING, "set(2, -1, 1)", "set(2, " + size + ", 1)", "set(2, MIN, 1)", "set(2, MAX, 1)", "set(2, 64, 1)")
                    .answers("get(3, 0)", -1).answers("get(4, " + (size - 1) + ")", -2);
        }
        Story.promise(4, SIXTY)
                .after("vector()", "append(0, 1)").after(Story.repeated("vector()", 2, 58)).answers("set(1, 0, 2)", 59)
                .refuses(Story.STATE, "set(1, 0, 3)", "set(1, 0, 1)", "set(59, 0, 3)").answers("made()", 60L);
        Story.listedFirst(4)
                .after(Story.grown(2)).after("map()", "open(2)")
                .refuses(Story.INDEX, "set(5, 0, 1000)", "set(5, -1, 0)", "set(-1, 9, 1000)")
                .refuses(Story.ARGUMENT, "set(3, 0, 1000)", "set(4, 0, 1000)", "set(2, 2, 1000)", "set(2, -1, -1000)", "set(1, 0, 1000)")
                .refuses(Story.UNSUPPORTED, "set(3, 2, 0)", "set(4, 2, 0)", "set(4, -1, 0)", "set(1, 0, 0)")
                .after(Story.repeated("vector()", 5, 59))
                .refuses(Story.INDEX, "set(60, 0, 0)", "set(60, 0, 1000)")
                .refuses(Story.ARGUMENT, "set(2, 0, 1000)", "set(2, 2, 1000)", "set(3, 0, 1000)")
                .refuses(Story.UNSUPPORTED, "set(3, 0, 0)", "set(4, 0, 0)", "set(1, 0, 0)")
                .refuses(Story.MISSING, "set(2, 2, 0)", "set(2, -1, 0)", "set(0, 0, 0)")
                .refuses(Story.STATE, "set(2, 1, 0)");
    }

    private static void cut() {
        for (int size = 1; size <= 64; size++) {
            Story story = Story.promise(5, "Makes a vector without the last element.")
                    .after(Story.grown(size)).answers("cut(2)", 3).answers("size(3)", size - 1).answers("size(2)", size)
                    .answers("get(2, " + (size - 1) + ")", size).answers("getPlain(2, " + (size - 1) + ")", size)
                    .refuses(Story.MISSING, "get(3, " + (size - 1) + ")", "getPlain(3, " + (size - 1) + ")");
            if (size > 1) {
                story.answers("get(3, " + (size - 2) + ")", size - 1).answers("getPlain(3, " + (size - 2) + ")", size - 1);
            }
            story.answers("append(3, " + size + ")", 4).answers("areSame(4, 2)", true);
        }
        Story numbers = Story.promise(5, "Returns its number.").after(Story.grown(57));
        for (int i = 3; i < 60; i++) {
            numbers.answers("cut(" + (i - 1) + ")", i);
        }
        numbers.answers("size(59)", 0).answers("size(58)", 1);
    }

    private static void cutRefuses() {
        Story.promise(5, NO_VALUE)
                .refuses(Story.INDEX, "cut(0)").after("vector()", "append(0, 1)")
                .refuses(Story.INDEX, "cut(2)", "cut(-1)", "cut(MAX)", "cut(MIN)").answers("cut(1)", 2);
        Story.promise(5, NO_VECTOR)
                .after(Story.grown(1)).after("map()", "put(3, 0, 5)", "open(2)")
                .refuses(Story.UNSUPPORTED, "cut(4)", "cut(5)", "cut(3)", "cut(1)").answers("cut(2)", 6);
        Story.promise(5, "Throws `NoSuchElementException` if it is empty")
                .after("vector()").refuses(Story.MISSING, "cut(0)").after("append(0, 1)", "append(1, 2)")
                .answers("cut(2)", 3).answers("cut(3)", 4).answers("size(4)", 0).refuses(Story.MISSING, "cut(4)");
        Story.promise(5, SIXTY)
                .after("vector()", "append(0, 1)").after(Story.repeated("vector()", 2, 58)).answers("cut(1)", 59)
                .refuses(Story.STATE, "cut(1)").answers("made()", 60L);
        Story.listedFirst(5)
                .after("vector()", "map()", "open(0)", "open(0)", "makeLasting(3)", "append(0, 1)")
                .refuses(Story.UNSUPPORTED, "cut(1)", "cut(2)", "cut(3)").refuses(Story.MISSING, "cut(0)", "cut(4)")
                .after(Story.repeated("vector()", 6, 59))
                .refuses(Story.INDEX, "cut(60)", "cut(-1)").refuses(Story.UNSUPPORTED, "cut(1)", "cut(2)", "cut(3)")
                .refuses(Story.MISSING, "cut(0)", "cut(59)").refuses(Story.STATE, "cut(5)");
    }

    private static void depth() {
        Story.promise(6, "Returns the depth of a vector, open or not.")
                .after(Story.grown(4)).answers("depth(2)", 1).answers("open(2)", 3).answers("depth(3)", 1)
                .after("appendTo(3, 5)").answers("depth(3)", 2).answers("depth(2)", 1)
                .after(Story.repeated("appendTo(3, #)", 6, 16)).answers("depth(3)", 2)
                .after("appendTo(3, 17)").answers("depth(3)", 3).answers("makeLasting(3)", 4).answers("depth(4)", 3);
        for (int size = 0; size <= 64; size++) {
            Story.promise(6, "Returns the depth.").after(Story.grown(size)).answers("depth(2)", size <= 4 ? 1 : size <= 16 ? 2 : 3);
        }
        Story.promise(6, NO_VALUE)
                .refuses(Story.INDEX, "depth(0)").after("vector()")
                .refuses(Story.INDEX, "depth(1)", "depth(-1)", "depth(MAX)", "depth(MIN)").answers("depth(0)", 1)
                .after(Story.repeated("vector()", 1, 59)).answers("depth(59)", 1).refuses(Story.INDEX, "depth(60)");
        Story.promise(6, "Throws `UnsupportedOperationException` if it is no vector, or an open one that was made lasting")
                .after("vector()", "map()", "open(0)").answers("depth(2)", 1).refuses(Story.UNSUPPORTED, "depth(1)")
                .after("makeLasting(2)").refuses(Story.UNSUPPORTED, "depth(2)").answers("depth(3)", 1);
    }

    private static void values() {
        String numbered = "At most 60 values are numbered from 0 in the order in which they are made; "
                + "each is a vector or a map, which is lasting, or an open vector.";
        Story all = Story.term("Values", "2 to 5, 7, 10, 12 to 14, 29", numbered)
                .answers("vector()", 0).answers("append(0, 1)", 1).answers("set(1, 0, 2)", 2).answers("cut(2)", 3)
                .answers("open(1)", 4).answers("makeLasting(4)", 5).answers("map()", 6).answers("put(6, 0, 1)", 7)
                .answers("without(7, 0)", 8).after("range(1, 1, 1)").answers("collect(0)", 9).answers("open(9)", 10)
                .after(Story.repeated("vector()", 11, 58)).refuses(Story.INDEX, "size(59)").answers("map()", 59)
                .answers("size(59)", 0).refuses(Story.INDEX, "size(60)", "size(-1)");
        all.refuses(Story.STATE, "vector()", "append(0, 1)", "set(1, 0, 2)", "cut(1)", "open(1)", "makeLasting(10)", "map()",
                "put(6, 0, 1)", "without(7, 0)", "collect(0)").answers("made()", 57L);
        String[] lastOnes = {"vector()", "append(0, 1)", "set(1, 0, 2)", "cut(1)", "open(1)", "makeLasting(2)", "map()",
            "put(3, 0, 1)", "without(4, 0)", "collect(0)"};
        for (String last : lastOnes) {
            Story.term("Values", "2 to 5, 7, 10, 12 to 14, 29", numbered)
                    .after("vector()", "append(0, 1)", "open(1)", "map()", "put(3, 0, 1)", "range(1, 1, 1)")
                    .after(Story.repeated("vector()", 5, 58)).answers(last, 59)
                    .refuses(Story.STATE, "vector()", "map()", "append(0, 1)");
        }
        String whole = "Elements are whole numbers from -999 to 999.";
        for (int element : new int[] {-999, -998, 0, 998, 999}) {
            Story.term("Values", "3, 4, 8, 9, 13", whole)
                    .after("vector()", "append(0, 1)", "open(1)", "map()")
                    .after("append(0, " + element + ")", "set(1, 0, " + element + ")", "put(3, 0, " + element + ")",
                            "appendTo(2, " + element + ")", "setIn(2, 0, " + element + ")")
                    .answersEach(element, "get(4, 0)", "get(5, 0)", "get(6, 0)", "get(2, 0)", "get(2, 1)")
                    .answersEach(element, "getPlain(4, 0)", "getPlain(5, 0)", "getPlain(6, 0)", "getPlain(2, 0)", "getPlain(2, 1)");
        }
        for (String element : new String[] {"-1000", "1000", "MIN", "MAX", "-1001", "1001"}) {
            Story.term("Values", "3, 4, 8, 9, 13", whole)
                    .after("vector()", "append(0, 1)", "open(1)", "map()")
                    .refuses(Story.ARGUMENT, "append(0, " + element + ")", "set(1, 0, " + element + ")", "put(3, 0, " + element + ")",
                            "appendTo(2, " + element + ")", "setIn(2, 0, " + element + ")");
        }
    }

    private static void nodes() {
        Story.term("Nodes", "18 to 20", "Values have nodes, and different values can have the same node.")
                .after(Story.grown(4)).answers("append(2, 5)", 3).answers("nodes(2)", 1).answers("nodes(3)", 3)
                .answers("shared(2, 3)", 1).answers("shared(0, 2)", 0).answers("made()", 4L);
        Story kept = Story.term("Nodes", "3 to 5, 8, 9, 13, 14", "A lasting node never changes.")
                .after(Story.grown(5)).after("append(2, 6)", "set(2, 4, 9)", "cut(2)", "open(2)", "setIn(6, 0, 8)",
                        "setIn(6, 4, 8)", "appendTo(6, 8)");
        for (int i = 0; i < 5; i++) {
            kept.answers("get(2, " + i + ")", i + 1);
        }
        kept.answers("nodes(2)", 3).answers("size(2)", 5).answers("makeLasting(6)", 7).after("open(7)", "setIn(8, 0, 1)")
                .answers("get(7, 0)", 8).answers("get(8, 0)", 1)
                .after("map()", "put(9, 0, 1)", "put(10, 4, 2)", "put(11, 0, 3)", "without(11, 0)")
                .answers("get(10, 0)", 1).answers("get(11, 0)", 1).answers("get(11, 4)", 2).answers("nodes(11)", 2)
                .answers("get(12, 0)", 3).answers("nodes(13)", 1).answers("size(9)", 0).answers("nodes(9)", 1);
        for (int size = 0; size < 64; size++) {
            checkAppend(size);
        }
        for (int size = 1; size <= 64; size++) {
            checkSetAndCut(size);
        }
        Story.term("Nodes", "4, 7, 9, 10, 13", "If nothing changes at all, it has all the same nodes.")
                .after(Story.grown(64)).answers("made()", 22L).answers("set(2, 63, 64)", 3).answers("shared(2, 3)", 21)
                .answers("open(2)", 4).answers("shared(2, 4)", 21).answers("setIn(4, 0, 1)", 0).answers("setIn(4, 63, 64)", 0)
                .answers("shared(2, 4)", 21).answers("makeLasting(4)", 5).answers("shared(2, 5)", 21).answers("made()", 22L)
                .after("map()", "put(6, 0, 5)", "put(7, 118, 6)").answers("made()", 29L).answers("put(8, 118, 6)", 9)
                .answers("shared(8, 9)", 5).answers("made()", 29L).answers("put(7, 0, 5)", 10).answers("shared(7, 10)", 1)
                .answers("made()", 29L).answers("put(7, 0, 6)", 11).answers("shared(7, 11)", 0).answers("made()", 30L);
        int[] due = {1, 1, 1, 1, 1, 3, 3, 3, 3, 4, 4, 4, 4, 5, 5, 5, 5, 8, 8, 8, 8, 9, 9, 9, 9};
        for (int many = 0; many <= 24; many++) {
            Story.term("Nodes", "29", "A vector that is made of a sequence has nodes that are made for it.")
                    .after("range(1, 1, " + many + ")").answers("collect(0)", 0).answers("made()", (long) due[many])
                    .answers("nodes(0)", due[many]).answers("collect(0)", 1).answers("shared(0, 1)", 0)
                    .answers("made()", 2L * due[many]).answers("areSame(0, 1)", true);
        }
    }

    /** The nodes of a vector, counted by its rows of 4 and of 16. */
    private static int nodesOf(int size) {
        int leaves = Math.max(1, (size + 3) / 4);
        return size <= 4 ? 1 : size <= 16 ? leaves + 1 : leaves + (size + 15) / 16 + 1;
    }

    /** How many nodes lie on the way to an element behind these, of those that hold an element already. */
    private static int touched(int size) {
        return size <= 4 ? 1 : size <= 16 ? 1 + (size % 4 == 0 ? 0 : 1) : 1 + (size % 16 == 0 ? 0 : 1) + (size % 4 == 0 ? 0 : 1);
    }

    private static void checkAppend(int size) {
        int nodes = nodesOf(size);
        boolean deeper = size == 4 || size == 16;
        int shared = deeper ? nodes : nodes - touched(size);
        long made = nodesOf(size + 1) - shared;
        String sentence = "When a value is made from another one, it has the same nodes as this one wherever nothing changes "
                + "in a node or below it; all others are made.";
        Story story = Story.term("Nodes", "3, 7, 8", sentence).after(Story.grown(size));
        long before = 1 + (size == 0 ? 0 : nodes);
        story.answers("made()", before).answers("append(2, 0)", 3).answers("made()", before + made)
                .answers("nodes(3)", nodesOf(size + 1)).answers("shared(2, 3)", shared).answers("shared(3, 2)", shared)
                .answers("nodes(2)", nodes).answers("open(2)", 4).answers("shared(2, 4)", nodes)
                .answers("appendTo(4, 0)", (int) made).answers("made()", before + 2 * made).answers("shared(2, 4)", shared)
                .answers("shared(3, 4)", shared);
    }

    private static void checkSetAndCut(int size) {
        int nodes = nodesOf(size);
        int depth = size <= 4 ? 1 : size <= 16 ? 2 : 3;
        boolean lessDeep = size == 5 || size == 17;
        int left = nodesOf(size - 1);
        int cutShared = lessDeep ? left : left - touched(size - 1);
        long before = 1 + nodes;
        String sentence = "When a value is made from another one, it has the same nodes as this one wherever nothing changes "
                + "in a node or below it; all others are made.";
        Story.term("Nodes", "4, 5, 9", sentence).after(Story.grown(size))
                .answers("made()", before).answers("set(2, " + (size - 1) + ", 0)", 3).answers("made()", before + depth)
                .answers("shared(2, 3)", nodes - depth).answers("set(2, 0, 0)", 4).answers("shared(2, 4)", nodes - depth)
                .answers("made()", before + 2 * depth).answers("cut(2)", 5).answers("nodes(5)", left)
                .answers("shared(2, 5)", cutShared).answers("made()", before + 2 * depth + left - cutShared)
                .answers("open(2)", 6).answers("setIn(6, " + (size / 2) + ", 0)", depth)
                .answers("shared(2, 6)", nodes - depth).answers("made()", before + 3 * depth + left - cutShared);
    }

    private static void elementsOfVectors() {
        Story.term("Vectors", "3, 8", "A vector has at most 64 elements.")
                .after(Story.grown(63)).answers("append(2, 64)", 3).answers("size(3)", 64).answers("get(3, 63)", 64)
                .refuses(Story.UNSUPPORTED, "append(3, 65)").answers("open(2)", 4).after("appendTo(4, 64)").answers("size(4)", 64)
                .refuses(Story.UNSUPPORTED, "appendTo(4, 65)").answers("size(4)", 64).refuses(Story.MISSING, "get(4, 64)");
        String depths = "Its depth is 1 for at most 4 of them, 2 for at most 16, and 3 otherwise.";
        Story rising = Story.term("Vectors", "3, 6", depths).after("vector()");
        for (int size = 1; size <= 24; size++) {
            rising.answers("append(" + (size - 1) + ", 0)", size).answers("depth(" + size + ")", size <= 4 ? 1 : size <= 16 ? 2 : 3);
        }
        Story falling = Story.term("Vectors", "5, 6", depths).after(Story.grown(24)).answers("depth(2)", 3);
        for (int size = 23; size >= 0; size--) {
            falling.answers("cut(" + (25 - size) + ")", 26 - size).answers("depth(" + (26 - size) + ")", size <= 4 ? 1 : size <= 16 ? 2 : 3);
        }
        Story opened = Story.term("Vectors", "6, 8", depths).after("vector()", "open(0)").answers("depth(1)", 1);
        for (int size = 1; size <= 64; size++) {
            opened.after("appendTo(1, 0)").answers("depth(1)", size <= 4 ? 1 : size <= 16 ? 2 : 3);
        }
        Story collected = Story.term("Vectors", "6, 29", depths);
        int[] sizes = {0, 4, 5, 16, 17, 24};
        for (int i = 0; i < sizes.length; i++) {
            collected.after("range(1, 1, " + sizes[i] + ")").answers("collect(" + i + ")", i)
                    .answers("depth(" + i + ")", sizes[i] <= 4 ? 1 : sizes[i] <= 16 ? 2 : 3);
        }
        Story order = Story.term("Vectors", "15, 19", "At the depth 1, its only node holds all of its elements, in their order.")
                .after(Story.grown(4)).answers("nodes(2)", 1);
        for (int i = 0; i < 4; i++) {
            order.answers("get(2, " + i + ")", i + 1).answers("getPlain(2, " + i + ")", i + 1);
        }
        order.answers("set(2, 3, 0)", 3).answers("shared(2, 3)", 0).answers("get(3, 2)", 3).answers("append(2, 5)", 4).answers("nodes(4)", 3);
    }

    private static void nodesOfVectors() {
        String rows = "At a greater depth, its top holds nodes: each of these holds, in the same way, 4 elements of each 16 at the "
                + "depth 2, and 16 of each 64 at the depth 3, as 4 nodes of 4 elements; the last one of them may hold less, "
                + "and there are no empty ones.";
        for (int size = 0; size <= 64; size++) {
            Story story = Story.term("Vectors", "15, 19", rows).after(Story.grown(size)).answers("nodes(2)", nodesOf(size));
            for (int i = 0; i < size; i++) {
                story.answers("get(2, " + i + ")", i + 1);
            }
        }
        Story.term("Vectors", "9, 15, 19", rows)
                .after(Story.grown(64)).answers("open(2)", 3).answers("setIn(3, 3, 0)", 3).answers("setIn(3, 4, 0)", 1)
                .answers("setIn(3, 7, 0)", 0).answers("setIn(3, 8, 0)", 1).answers("setIn(3, 15, 0)", 1).answers("setIn(3, 12, 0)", 0)
                .answers("setIn(3, 16, 0)", 2).answers("setIn(3, 31, 0)", 1).answers("setIn(3, 32, 0)", 2).answers("setIn(3, 47, 0)", 1)
                .answers("setIn(3, 48, 0)", 2).answers("setIn(3, 63, 0)", 1).answers("setIn(3, 0, 0)", 0).answers("shared(2, 3)", 6);
        Story.term("Vectors", "9, 15, 19", rows)
                .after(Story.grown(16)).answers("open(2)", 3).answers("setIn(3, 3, 0)", 2).answers("setIn(3, 0, 0)", 0)
                .answers("setIn(3, 4, 0)", 1).answers("setIn(3, 7, 0)", 0).answers("setIn(3, 8, 0)", 1).answers("setIn(3, 11, 0)", 0)
                .answers("setIn(3, 12, 0)", 1).answers("setIn(3, 15, 0)", 0).answers("shared(2, 3)", 0);
        Story.term("Vectors", "2, 5, 19, 29", "An empty vector has one node.")
                .answers("vector()", 0).answers("nodes(0)", 1).answers("append(0, 1)", 1).answers("nodes(1)", 1)
                .answers("cut(1)", 2).answers("nodes(2)", 1).answers("shared(1, 2)", 0).answers("shared(0, 2)", 0)
                .after("range(0, 0, 0)").answers("collect(0)", 3).answers("nodes(3)", 1).answers("open(2)", 4).answers("nodes(4)", 1)
                .answers("shared(2, 4)", 1).answers("made()", 4L);
        String deeper = "When a vector gets deeper, its former top is the first node below the new one; when it gets less deep, "
                + "the first node below its top is the new top.";
        Story.term("Vectors", "3, 5, 8", deeper)
                .after(Story.grown(4)).answers("append(2, 5)", 3).answers("shared(2, 3)", 1).answers("cut(3)", 4)
                .answers("shared(2, 4)", 1).answers("areSame(2, 4)", true).answers("made()", 4L)
                .answers("open(2)", 5).answers("appendTo(5, 5)", 2).answers("shared(2, 5)", 1)
                .answers("setIn(5, 0, 0)", 1).answers("shared(2, 5)", 0);
        Story.term("Vectors", "3, 5, 8", deeper)
                .after(Story.grown(16)).answers("append(2, 17)", 3).answers("shared(2, 3)", 5).answers("cut(3)", 4)
                .answers("shared(2, 4)", 5).answers("nodes(4)", 5).answers("made()", 9L).answers("append(3, 18)", 5).answers("cut(5)", 6)
                .answers("shared(5, 6)", 5).answers("cut(6)", 7).answers("shared(2, 7)", 5).answers("open(2)", 8).answers("appendTo(8, 17)", 3)
                .answers("shared(2, 8)", 5).answers("setIn(8, 0, 0)", 2).answers("shared(2, 8)", 3);
        Story.term("Vectors", "8", deeper)
                .after("vector()", "open(0)").after(Story.repeated("appendTo(1, #)", 1, 4)).answers("appendTo(1, 5)", 2)
                .answers("setIn(1, 0, 0)", 0).answers("made()", 4L).after(Story.repeated("appendTo(1, #)", 6, 16))
                .answers("appendTo(1, 17)", 3).answers("setIn(1, 0, 1)", 0).answers("setIn(1, 15, 1)", 0).answers("made()", 9L);
    }
}
