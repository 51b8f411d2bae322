/** Promises 7 to 11, and what stands under Open vectors. */
final class OpenVectorBoundaries {
    private static final String NO_VALUE = "Throws `IndexOutOfBoundsException` if there is no such value";
    private static final String NO_ELEMENT = "Throws `IllegalArgumentException` if the element is not from -999 to 999";
    private static final String SIXTY = "Throws `IllegalStateException` if there are 60 values";
    private static final String NOT_OPEN = "Throws `UnsupportedOperationException` if the value is no vector that is open";

    private OpenVectorBoundaries() {
    }

    static void tell() {
        open();
        openRefuses();
        appendTo();
        appendToRefuses();
        setIn();
        setInRefuses();
        makeLasting();
        makeLastingRefuses();
        isOpen();
        beginsWithTheNodes();
        changedInPlace();
        openNoMore();
    }

    private static void open() {
        Story.promise(7, "Opens a vector.")
                .after(Story.grown(5)).answers("open(2)", 3).answers("isOpen(3)", true).answers("isOpen(2)", false)
                .answers("areSame(2, 3)", true).answers("size(3)", 5).answers("get(3, 4)", 5).answers("getPlain(3, 4)", 5)
                .refuses(Story.MISSING, "get(3, 5)", "getPlain(3, 5)", "get(3, -1)", "getPlain(3, -1)")
                .answers("appendTo(3, 6)", 2).answers("size(3)", 6).answers("size(2)", 5);
        Story numbers = Story.promise(7, "Returns the number of the open one.").after("vector()");
        for (int i = 1; i < 60; i++) {
            numbers.answers("open(0)", i);
        }
        numbers.answers("appendTo(59, 1)", 1).answers("size(59)", 1).answers("size(58)", 0).answers("size(0)", 0);
        for (int size : new int[] {0, 1, 4, 5, 16, 17, 63, 64}) {
            Story.promise(7, "Opens a vector.").after(Story.grown(size)).answers("open(2)", 3).answers("areSame(3, 2)", true)
                    .answers("size(3)", size).refuses(Story.MISSING, "get(3, " + size + ")", "setIn(3, " + size + ", 0)");
        }
    }

    private static void openRefuses() {
        Story.promise(7, NO_VALUE)
                .refuses(Story.INDEX, "open(0)").after("vector()")
                .refuses(Story.INDEX, "open(1)", "open(-1)", "open(MAX)", "open(MIN)").answers("open(0)", 1)
                .refuses(Story.INDEX, "open(2)");
        Story.promise(7, "Throws `UnsupportedOperationException` if the value is no lasting vector")
                .after("vector()", "map()", "open(0)", "open(0)", "makeLasting(3)")
                .refuses(Story.UNSUPPORTED, "open(1)", "open(2)", "open(3)").answers("open(4)", 5);
        Story.promise(7, SIXTY)
                .after(Story.repeated("vector()", 0, 58)).answers("open(0)", 59).refuses(Story.STATE, "open(0)", "open(58)");
        Story.listedFirst(7)
                .after("vector()", "map()", "open(0)", "open(0)", "makeLasting(3)").after(Story.repeated("vector()", 5, 59))
                .refuses(Story.INDEX, "open(60)", "open(-1)").refuses(Story.UNSUPPORTED, "open(1)", "open(2)", "open(3)")
                .refuses(Story.STATE, "open(0)", "open(4)");
    }

    private static void appendTo() {
        Story story = Story.promise(8, "Appends an element to an open vector.").after("vector()", "open(0)");
        for (int size = 0; size < 64; size++) {
            story.after("appendTo(1, " + (size - 999) + ")").answers("size(1)", size + 1).answers("get(1, " + size + ")", size - 999)
                    .answers("getPlain(1, " + size + ")", size - 999);
        }
        story.answers("get(1, 0)", -999).answers("getPlain(1, 0)", -999).answers("size(0)", 0);
        Story own = Story.promise(8, "Returns the number of nodes that are made.").after("vector()", "open(0)")
                .answers("appendTo(1, 1)", 1);
        for (int size = 1; size < 64; size++) {
            int made = size % 4 != 0 ? 0 : size == 4 ? 2 : size == 16 ? 3 : size % 16 == 0 ? 2 : 1;
            own.answers("appendTo(1, 1)", made);
        }
        own.answers("made()", 22L).answers("nodes(1)", 21);
        int[] sizes = {0, 3, 4, 5, 8, 15, 16, 17, 20, 31, 32, 63};
        int[] first = {1, 1, 2, 2, 2, 2, 3, 3, 3, 3, 3, 3};
        for (int i = 0; i < sizes.length; i++) {
            Story.promise(8, "Returns the number of nodes that are made.")
                    .after(Story.grown(sizes[i])).after("open(2)").answers("appendTo(3, 1)", first[i])
                    .answers("setIn(3, " + sizes[i] + ", 2)", 0);
        }
        Story.promise(8, "Returns the number of nodes that are made.")
                .after(Story.repeated("vector()", 0, 58)).answers("open(0)", 59).answers("appendTo(59, 1)", 1).answers("appendTo(59, 2)", 0);
    }

    private static void appendToRefuses() {
        Story.promise(8, NO_VALUE)
                .refuses(Story.INDEX, "appendTo(0, 1)").after("vector()", "open(0)")
                .refuses(Story.INDEX, "appendTo(2, 1)", "appendTo(-1, 1)", "appendTo(MAX, 1)", "appendTo(MIN, 1)")
                .answers("appendTo(1, 1)", 1);
        Story.promise(8, NO_ELEMENT)
                .after("vector()", "open(0)").answers("appendTo(1, 999)", 1).answers("appendTo(1, -999)", 0)
                .refuses(Story.ARGUMENT, "appendTo(1, 1000)", "appendTo(1, -1000)", "appendTo(1, MAX)", "appendTo(1, MIN)")
                .answers("size(1)", 2).answers("get(1, 0)", 999).answers("get(1, 1)", -999).answers("getPlain(1, 1)", -999);
        Story.promise(8, "Throws `UnsupportedOperationException` if the value is no vector that is open, or has 64 elements")
                .after("vector()", "open(0)").after(Story.repeated("appendTo(1, #)", 1, 63)).answers("appendTo(1, 64)", 0)
                .refuses(Story.UNSUPPORTED, "appendTo(1, 65)", "appendTo(0, 1)").answers("size(1)", 64)
                .after("map()").refuses(Story.UNSUPPORTED, "appendTo(2, 1)").after("makeLasting(1)")
                .refuses(Story.UNSUPPORTED, "appendTo(1, 1)", "appendTo(3, 1)")
                .after("open(3)").refuses(Story.UNSUPPORTED, "appendTo(4, 1)").after("open(0)").answers("appendTo(5, 1)", 1);
        Story.listedFirst(8)
                .after(Story.grown(64)).after("open(2)", "map()")
                .refuses(Story.INDEX, "appendTo(5, 1000)", "appendTo(-1, -1000)")
                .refuses(Story.ARGUMENT, "appendTo(0, 1000)", "appendTo(1, 1000)", "appendTo(2, -1000)", "appendTo(3, 1000)",
                        "appendTo(4, -1000)")
                .refuses(Story.UNSUPPORTED, "appendTo(0, 1)", "appendTo(1, 1)", "appendTo(2, 1)", "appendTo(3, 1)", "appendTo(4, 1)");
    }

    private static void setIn() {
        for (int size : new int[] {1, 4, 5, 16, 17, 64}) {
            int last = size - 1;
            Story.promise(9, "Sets an element of an open vector.")
                    .after(Story.grown(size)).after("open(2)", "setIn(3, 0, -1)", "setIn(3, " + last + ", -2)")
                    .answers("get(3, " + last + ")", -2).answers("getPlain(3, " + last + ")", -2)
                    .answers("get(3, 0)", size == 1 ? -2 : -1).answers("getPlain(3, 0)", size == 1 ? -2 : -1)
                    .answers("get(2, 0)", 1).answers("getPlain(2, 0)", 1).answers("get(2, " + last + ")", size)
                    .answers("getPlain(2, " + last + ")", size).answers("size(3)", size);
        }
        String made = "Returns the number of nodes that are made.";
        Story.promise(9, made).after(Story.grown(4)).after("open(2)").answers("setIn(3, 0, 1)", 0).answers("setIn(3, 0, 9)", 1)
                .answers("setIn(3, 3, 9)", 0).answers("setIn(3, 3, 9)", 0).answers("made()", 3L);
        Story.promise(9, made).after(Story.grown(5)).after("open(2)").answers("setIn(3, 4, 5)", 0).answers("setIn(3, 4, 9)", 2)
                .answers("setIn(3, 3, 9)", 1).answers("setIn(3, 0, 9)", 0).answers("made()", 7L);
        Story.promise(9, made).after(Story.grown(16)).after("open(2)").answers("setIn(3, 15, 9)", 2).answers("setIn(3, 12, 9)", 0)
                .answers("setIn(3, 11, 9)", 1).answers("made()", 9L);
        Story.promise(9, made).after(Story.grown(17)).after("open(2)").answers("setIn(3, 16, 9)", 3).answers("setIn(3, 15, 9)", 2)
                .answers("setIn(3, 12, 9)", 0).answers("setIn(3, 11, 9)", 1).answers("made()", 15L);
        Story.promise(9, made).after(Story.grown(64)).after("open(2)").answers("setIn(3, 63, 9)", 3).answers("setIn(3, 48, 9)", 1)
                .answers("setIn(3, 47, 9)", 2).answers("setIn(3, 63, 8)", 0).answers("made()", 28L);
    }

    private static void setInRefuses() {
        Story.promise(9, NO_VALUE)
                .refuses(Story.INDEX, "setIn(0, 0, 1)").after(Story.grown(1)).after("open(2)")
                .refuses(Story.INDEX, "setIn(4, 0, 1)", "setIn(-1, 0, 1)", "setIn(MAX, 0, 1)", "setIn(MIN, 0, 1)")
                .answers("setIn(3, 0, 2)", 1);
        Story.promise(9, NO_ELEMENT)
                .after(Story.grown(2)).after("open(2)").answers("setIn(3, 0, 999)", 1).answers("setIn(3, 1, -999)", 0)
                .refuses(Story.ARGUMENT, "setIn(3, 0, 1000)", "setIn(3, 0, -1000)", "setIn(3, 1, MAX)", "setIn(3, 1, MIN)")
                .answers("get(3, 0)", 999).answers("getPlain(3, 0)", 999).answers("get(3, 1)", -999).answers("getPlain(3, 1)", -999);
        Story.promise(9, NOT_OPEN)
                .after(Story.grown(1)).after("open(2)", "map()", "put(4, 0, 1)")
                .refuses(Story.UNSUPPORTED, "setIn(2, 0, 5)", "setIn(1, 0, 5)", "setIn(4, 0, 5)", "setIn(5, 0, 5)", "setIn(2, 0, 1)")
                .answers("setIn(3, 0, 5)", 1).after("makeLasting(3)").refuses(Story.UNSUPPORTED, "setIn(3, 0, 6)", "setIn(6, 0, 6)");
        String noPlace = "Throws `NoSuchElementException` if there is no such place";
        Story.promise(9, "- `place`: the place, from 0")
                .after(Story.grown(3)).after("open(2)").answers("setIn(3, 0, 9)", 1).answers("get(3, 0)", 9)
                .refuses(Story.MISSING, "setIn(3, -1, 9)").answers("setIn(3, 2, 8)", 0).answers("get(3, 2)", 8)
                .refuses(Story.MISSING, "setIn(3, 3, 9)");
        Story.promise(9, noPlace).after("vector()", "open(0)").refuses(Story.MISSING, "setIn(1, 0, 1)", "setIn(1, -1, 1)")
                .after("appendTo(1, 1)").answers("setIn(1, 0, 2)", 0).refuses(Story.MISSING, "setIn(1, 1, 1)");
        for (int size : new int[] {1, 3, 4, 5, 16, 17, 63, 64}) {
            Story.promise(9, noPlace).after(Story.grown(size)).after("open(2)")
                    .refuses(Story.MISSING, "setIn(3, " + size + ", 1)", "setIn(3, -1, 1)", "setIn(3, MAX, 1)", "setIn(3, MIN, 1)",
                            "setIn(3, 64, 1)")
                    .after("setIn(3, " + (size - 1) + ", -3)", "setIn(3, 0, -4)").answers("get(3, 0)", -4);
        }
        Story.listedFirst(9)
                .after(Story.grown(2)).after("open(2)", "map()")
                .refuses(Story.INDEX, "setIn(5, 0, 1000)", "setIn(5, -1, 1)")
                .refuses(Story.ARGUMENT, "setIn(2, 0, 1000)", "setIn(3, 2, 1000)", "setIn(3, -1, -1000)", "setIn(4, 0, 1000)",
                        "setIn(1, 0, 1000)")
                .refuses(Story.UNSUPPORTED, "setIn(2, 2, 1)", "setIn(4, 0, 1)", "setIn(1, 0, 1)", "setIn(2, -1, 1)");
    }

    private static void makeLasting() {
        for (int size : new int[] {0, 1, 4, 5, 16, 17, 64}) {
            Story.promise(10, "Makes an open vector lasting.")
                    .after(Story.grown(size)).after("open(2)").answers("makeLasting(3)", 4).answers("areSame(2, 4)", true)
                    .answers("isOpen(3)", false).answers("isOpen(4)", false).answers("size(4)", size)
                    .refuses(Story.MISSING, "get(4, " + size + ")", "getPlain(4, " + size + ")", "get(3, 0)", "getPlain(3, 0)")
                    .answers("open(4)", 5).answers("makeLasting(5)", 6).answers("areSame(6, 2)", true);
        }
        Story numbers = Story.promise(10, "Returns the number of the lasting one.").after(Story.repeated("vector()", 0, 57));
        numbers.answers("open(0)", 58).after("appendTo(58, 7)").answers("makeLasting(58)", 59).answers("get(59, 0)", 7)
                .answers("getPlain(59, 0)", 7).answers("size(58)", 0);
        Story.promise(10, "Returns the number of the lasting one.")
                .after("vector()", "open(0)", "open(0)", "map()", "appendTo(1, 5)").answers("makeLasting(2)", 4)
                .answers("makeLasting(1)", 5).answers("size(4)", 0).answers("size(5)", 1);
    }

    private static void makeLastingRefuses() {
        Story.promise(10, NO_VALUE)
                .refuses(Story.INDEX, "makeLasting(0)").after("vector()", "open(0)")
                .refuses(Story.INDEX, "makeLasting(2)", "makeLasting(-1)", "makeLasting(MAX)", "makeLasting(MIN)")
                .answers("makeLasting(1)", 2);
        Story.promise(10, NOT_OPEN)
                .after("vector()", "open(0)", "map()").refuses(Story.UNSUPPORTED, "makeLasting(0)", "makeLasting(2)")
                .answers("makeLasting(1)", 3).refuses(Story.UNSUPPORTED, "makeLasting(1)", "makeLasting(3)");
        Story.promise(10, SIXTY)
                .after("vector()", "open(0)", "open(0)", "appendTo(1, 5)", "appendTo(2, 6)").after(Story.repeated("vector()", 3, 58))
                .answers("makeLasting(1)", 59).refuses(Story.STATE, "makeLasting(2)", "makeLasting(2)")
                .answers("isOpen(2)", true).answers("size(2)", 1).answers("appendTo(2, 7)", 0).answers("get(2, 0)", 6);
        Story.listedFirst(10)
                .after("vector()", "open(0)", "open(0)", "makeLasting(2)", "map()").after(Story.repeated("vector()", 5, 59))
                .refuses(Story.INDEX, "makeLasting(60)", "makeLasting(-1)")
                .refuses(Story.UNSUPPORTED, "makeLasting(0)", "makeLasting(2)", "makeLasting(3)", "makeLasting(4)")
                .refuses(Story.STATE, "makeLasting(1)");
    }

    private static void isOpen() {
        Story.promise(11, "Tells whether a value is a vector that is open.")
                .after("vector()", "map()", "open(0)").answers("isOpen(0)", false).answers("isOpen(1)", false)
                .answers("isOpen(2)", true).after("appendTo(2, 1)").answers("isOpen(2)", true).after("makeLasting(2)")
                .answers("isOpen(2)", false).answers("isOpen(3)", false);
        Story.promise(11, "Returns true if it is.")
                .after("vector()", "open(0)").after(Story.repeated("vector()", 2, 58)).answers("open(0)", 59)
                .answersEach(true, "isOpen(1)", "isOpen(59)").answersEach(false, "isOpen(0)", "isOpen(2)", "isOpen(58)");
        Story.promise(11, NO_VALUE)
                .refuses(Story.INDEX, "isOpen(0)").after("vector()")
                .refuses(Story.INDEX, "isOpen(1)", "isOpen(-1)", "isOpen(MAX)", "isOpen(MIN)").answers("isOpen(0)", false)
                .after(Story.repeated("open(0)", 1, 59)).answers("isOpen(59)", true).refuses(Story.INDEX, "isOpen(60)");
    }

    private static void beginsWithTheNodes() {
        String begins = "A vector that is opened begins with all nodes of the lasting one, none of which is its own.";
        int[] sizes = {0, 1, 4, 5, 16, 17, 64};
        int[] nodes = {1, 1, 1, 3, 5, 8, 21};
        int[] way = {1, 1, 1, 2, 2, 3, 3};
        for (int i = 0; i < sizes.length; i++) {
            long made = 1 + (sizes[i] == 0 ? 0 : nodes[i]);
            Story story = Story.term("Open vectors", "7, 9, 20", begins)
                    .after(Story.grown(sizes[i])).after("open(2)").answers("shared(2, 3)", nodes[i]).answers("nodes(3)", nodes[i])
                    .answers("made()", made).answers("depth(3)", way[i]);
            if (sizes[i] > 0) {
                story.answers("setIn(3, 0, -9)", way[i]).answers("shared(2, 3)", nodes[i] - way[i]).answers("get(2, 0)", 1);
            }
        }
        Story.term("Open vectors", "7, 9", begins)
                .after(Story.grown(1)).after("open(2)", "open(2)").answers("setIn(3, 0, 5)", 1).answers("setIn(4, 0, 6)", 1)
                .answers("get(3, 0)", 5).answers("get(4, 0)", 6).answers("get(2, 0)", 1).answers("shared(3, 4)", 0)
                .answers("setIn(3, 0, 7)", 0).answers("get(4, 0)", 6);
    }

    private static void changedInPlace() {
        String inPlace = "When it is changed, each node in which or below which something changes is changed in place if it is its own, "
                + "and otherwise replaced by a new one, which is its own; nodes that are new are its own, too.";
        Story.term("Open vectors", "8, 9, 20", inPlace)
                .after(Story.grown(64)).after("open(2)").answers("setIn(3, 20, 0)", 3).answers("shared(2, 3)", 18)
                .answers("setIn(3, 23, 0)", 0).answers("shared(2, 3)", 18).answers("setIn(3, 24, 0)", 1).answers("shared(2, 3)", 17)
                .answers("setIn(3, 40, 0)", 2).answers("shared(2, 3)", 15).answers("setIn(3, 40, 1)", 0).answers("nodes(3)", 21)
                .answers("made()", 28L).answers("get(2, 20)", 21).answers("get(2, 40)", 41);
        Story.term("Open vectors", "8, 9", inPlace)
                .after(Story.grown(16)).after("open(2)").answers("appendTo(3, 17)", 3).answers("setIn(3, 16, 0)", 0)
                .answers("appendTo(3, 18)", 0).answers("setIn(3, 0, 0)", 2).answers("setIn(3, 4, 0)", 1).answers("setIn(3, 3, 0)", 0)
                .answers("shared(2, 3)", 2).answers("get(2, 0)", 1).answers("size(2)", 16);
        Story.term("Open vectors", "8, 9", inPlace)
                .after(Story.grown(17)).after("open(2)").answers("setIn(3, 0, 0)", 3).answers("appendTo(3, 18)", 2)
                .answers("appendTo(3, 19)", 0).answers("shared(2, 3)", 3).answers("size(2)", 17).refuses(Story.MISSING, "get(2, 17)");
        Story.term("Open vectors", "3 to 5, 8, 9", inPlace)
                .after(Story.grown(4)).after("open(2)", "setIn(3, 0, 9)").answers("made()", 3L).answers("appendTo(3, 5)", 2)
                .answers("setIn(3, 0, 8)", 0).answers("setIn(3, 4, 8)", 0).answers("made()", 5L).answers("shared(2, 3)", 0);
    }

    private static void openNoMore() {
        String lasting = "When it is made lasting, a value is made that has all of its nodes, and it is open no more.";
        Story.term("Open vectors", "8 to 11, 18 to 20", lasting)
                .after(Story.grown(5)).after("open(2)", "setIn(3, 4, 0)").answers("shared(2, 3)", 1).answers("makeLasting(3)", 4)
                .answers("nodes(4)", 3).answers("shared(2, 4)", 1).answers("made()", 6L).answers("get(4, 4)", 0).answers("get(4, 0)", 1)
                .answersEach(false, "isOpen(3)", "isOpen(4)").answersEach(0, "size(3)", "nodes(3)", "shared(3, 4)", "shared(3, 3)")
                .refuses(Story.UNSUPPORTED, "appendTo(3, 1)", "setIn(3, 0, 1)", "makeLasting(3)", "append(3, 1)", "open(3)", "cut(3)",
                        "set(3, 0, 1)", "depth(3)", "put(3, 0, 1)", "without(3, 0)", "levelOf(3, 0)")
                .refuses(Story.MISSING, "get(3, 0)", "getPlain(3, 0)", "areSame(3, 4)", "areSame(4, 3)", "areSame(3, 3)");
        Story.term("Open vectors", "7 to 10", lasting)
                .after(Story.grown(5)).after("open(2)", "setIn(3, 4, 0)", "makeLasting(3)", "open(4)").answers("setIn(5, 4, 9)", 2)
                .answers("get(4, 4)", 0).answers("makeLasting(5)", 6).answers("set(6, 4, 8)", 7).answers("get(6, 4)", 9)
                .answers("append(6, 1)", 8).answers("size(6)", 5).answers("shared(6, 8)", 1).answers("made()", 12L);
    }
}
