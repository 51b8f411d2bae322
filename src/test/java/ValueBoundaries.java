/** Promises 18 to 22 and 50: what is asked of all values. */
final class ValueBoundaries {
    private static final String NO_VALUE = "Throws `IndexOutOfBoundsException` if there is no such value";
    private static final String NO_VALUE_FOR_EITHER = "Throws `IndexOutOfBoundsException` if there is no such value, for either";
    private static final String SAME = "Tells whether two values are both vectors, open or not, with the same elements in their order, "
            + "or both maps with the same elements for the same keys.";

    private ValueBoundaries() {
    }

    static void tell() {
        size();
        nodes();
        shared();
        areSame();
        areSameRefuses();
        made();
        sharing();
    }

    private static void size() {
        for (int size : new int[] {0, 1, 4, 5, 16, 17, 63, 64}) {
            Story.promise(18, "Returns the number of elements.").after(Story.grown(size)).answers("size(2)", size)
                    .answers("open(2)", 3).answers("size(3)", size);
        }
        Story maps = Story.promise(18, "Returns the number of elements.").after("map()").answers("size(0)", 0);
        for (int i = 0; i < 40; i++) {
            maps.after("put(" + i + ", " + 25 * i + ", 0)").answers("size(" + (i + 1) + ")", i + 1);
        }
        maps.after("put(40, 0, 9)").answers("size(41)", 40).after("without(41, 975)").answers("size(42)", 39);
        Story.promise(18, "Returns the number, 0 for an open one that was made lasting.")
                .after(Story.grown(3)).after("open(2)", "appendTo(3, 9)").answers("size(3)", 4).answers("size(1)", 0)
                .after("makeLasting(3)").answers("size(3)", 0).answers("size(4)", 4).answers("size(2)", 3);
        Story.promise(18, NO_VALUE)
                .refuses(Story.INDEX, "size(0)").after("vector()")
                .refuses(Story.INDEX, "size(1)", "size(-1)", "size(MAX)", "size(MIN)").answers("size(0)", 0)
                .after(Story.repeated("map()", 1, 59)).answers("size(59)", 0).refuses(Story.INDEX, "size(60)");
    }

    private static void nodes() {
        int[] sizes = {0, 1, 3, 4, 5, 8, 9, 12, 13, 16, 17, 20, 21, 32, 33, 36, 37, 48, 49, 63, 64};
        int[] due = {1, 1, 1, 1, 3, 3, 4, 4, 5, 5, 8, 8, 9, 11, 13, 13, 14, 16, 18, 21, 21};
        for (int i = 0; i < sizes.length; i++) {
            Story.promise(19, "Returns the number of nodes of a value.").after(Story.grown(sizes[i])).answers("nodes(2)", due[i])
                    .answers("open(2)", 3).answers("nodes(3)", due[i]);
        }
        Story.promise(19, "Returns the number of nodes, 0 for an open one that was made lasting.")
                .after(Story.grown(5)).answers("nodes(1)", 0).after("open(2)").answers("nodes(3)", 3).after("makeLasting(3)")
                .answers("nodes(3)", 0).answers("nodes(4)", 3).answers("nodes(2)", 3).after("open(0)").answers("nodes(5)", 1)
                .after("makeLasting(5)").answers("nodes(5)", 0).answers("nodes(6)", 1);
        Story.promise(19, NO_VALUE)
                .refuses(Story.INDEX, "nodes(0)").after("vector()")
                .refuses(Story.INDEX, "nodes(1)", "nodes(-1)", "nodes(MAX)", "nodes(MIN)").answers("nodes(0)", 1)
                .after(Story.repeated("map()", 1, 59)).answers("nodes(59)", 1).refuses(Story.INDEX, "nodes(60)");
    }

    private static void shared() {
        Story.promise(20, "Returns how many nodes two values both have.")
                .after(Story.grown(5)).after("append(2, 6)", "append(3, 7)").answers("shared(2, 3)", 1).answers("shared(3, 2)", 1)
                .answers("shared(2, 4)", 1).answers("shared(3, 4)", 1).answers("shared(0, 4)", 0).answers("shared(1, 4)", 0)
                .answers("shared(4, 1)", 0).answers("shared(1, 1)", 0);
        Story.promise(20, "- `other`: the number of another value, or of the same one")
                .after(Story.grown(64)).after("map()", "put(3, 0, 1)", "put(4, 118, 1)").answers("shared(2, 2)", 21)
                .answers("shared(0, 0)", 1).answers("shared(5, 5)", 5).answers("shared(1, 1)", 0).answers("shared(2, 5)", 0);
        Story.promise(20, "Returns the number of nodes.")
                .after("vector()", "vector()", "map()").answers("shared(0, 1)", 0).answers("shared(0, 2)", 0).answers("shared(2, 2)", 1)
                .after("open(0)").answers("shared(0, 3)", 1).answers("shared(3, 0)", 1).after("appendTo(3, 1)").answers("shared(0, 3)", 0)
                .after("open(0)", "makeLasting(4)").answers("shared(0, 5)", 1).answers("shared(0, 4)", 0).answers("shared(4, 0)", 0);
        Story.promise(20, NO_VALUE_FOR_EITHER)
                .refuses(Story.INDEX, "shared(0, 0)").after("vector()")
                .refuses(Story.INDEX, "shared(0, 1)", "shared(1, 0)", "shared(-1, 0)", "shared(0, -1)", "shared(1, 1)", "shared(-1, -1)",
                        "shared(MAX, 0)", "shared(0, MAX)", "shared(MIN, 0)", "shared(0, MIN)")
                .answers("shared(0, 0)", 1).after(Story.repeated("vector()", 1, 59)).answers("shared(59, 59)", 1)
                .answers("shared(0, 59)", 0).refuses(Story.INDEX, "shared(60, 59)", "shared(59, 60)");
    }

    private static void areSame() {
        for (int size : new int[] {0, 1, 4, 5, 16, 17, 64}) {
            Story story = Story.promise(21, SAME)
                    .after(Story.grown(size)).after("vector()", "open(3)").after(Story.repeated("appendTo(4, #)", 1, size))
                    .answers("areSame(2, 4)", true).answers("areSame(4, 2)", true).after("makeLasting(4)")
                    .answers("areSame(2, 5)", true).answers("areSame(2, 2)", true).answers("areSame(0, 3)", true)
                    .answers("areSame(0, 2)", size == 0);
            if (size > 0) {
                story.after("set(2, 0, 0)", "set(2, " + (size - 1) + ", 0)", "cut(2)").answers("areSame(6, 2)", false)
                        .answers("areSame(5, 7)", false).answers("areSame(8, 2)", false).answers("areSame(2, 8)", false)
                        .answers("areSame(6, 7)", size == 1).answers("areSame(8, 0)", size == 1);
            }
        }
        Story.promise(21, SAME)
                .after("vector()", "append(0, 1)", "append(1, 2)", "append(0, 2)", "append(3, 1)").answers("areSame(2, 4)", false)
                .after("map()", "put(5, 0, 1)", "put(6, 1, 2)", "put(5, 1, 2)", "put(8, 0, 1)").answers("areSame(7, 9)", true)
                .answers("areSame(2, 7)", false).answers("areSame(7, 2)", false).answers("areSame(0, 5)", false)
                .answers("areSame(5, 0)", false).answers("areSame(6, 1)", false).answers("areSame(6, 7)", false)
                .answers("areSame(7, 6)", false).after("put(9, 1, 3)", "put(6, 2, 2)").answers("areSame(10, 7)", false)
                .answers("areSame(11, 7)", false).answers("areSame(6, 8)", false).after("map()").answers("areSame(5, 12)", true);
        Story.promise(21, SAME)
                .after("map()", "put(0, 1, 1)", "put(1, 360, 2)", "put(2, 485, 3)", "without(3, 1)", "put(4, 1, 1)")
                .answers("areSame(3, 5)", true).after("put(5, 360, 9)").answers("areSame(3, 6)", false).answers("areSame(4, 2)", false);
        Story.promise(21, "Returns true if so.")
                .after("vector()", "append(0, 999)", "append(0, 999)", "append(0, 998)").answers("areSame(1, 2)", true)
                .answers("areSame(1, 3)", false).after("open(1)").answers("areSame(4, 1)", true).answers("areSame(4, 4)", true)
                .after("setIn(4, 0, 998)").answers("areSame(4, 1)", false).answers("areSame(4, 3)", true);
        Story.promise(21, "- `other`: the number of another value, or of the same one")
                .after("vector()", "append(0, 1)", "open(1)", "map()", "put(3, 0, 1)")
                .answersEach(true, "areSame(0, 0)", "areSame(1, 1)", "areSame(2, 2)", "areSame(3, 3)", "areSame(4, 4)");
    }

    private static void areSameRefuses() {
        Story.promise(21, NO_VALUE_FOR_EITHER)
                .refuses(Story.INDEX, "areSame(0, 0)").after("vector()")
                .refuses(Story.INDEX, "areSame(0, 1)", "areSame(1, 0)", "areSame(-1, 0)", "areSame(0, -1)", "areSame(1, 1)",
                        "areSame(MAX, 0)", "areSame(0, MAX)", "areSame(MIN, 0)", "areSame(0, MIN)")
                .answers("areSame(0, 0)", true).after(Story.repeated("vector()", 1, 59)).answers("areSame(0, 59)", true)
                .refuses(Story.INDEX, "areSame(60, 0)", "areSame(0, 60)");
        Story.promise(21, "Throws `NoSuchElementException` if one is an open one that was made lasting")
                .after("vector()", "map()", "open(0)", "open(0)").answers("areSame(2, 3)", true).after("makeLasting(2)", "makeLasting(3)")
                .refuses(Story.MISSING, "areSame(2, 0)", "areSame(0, 2)", "areSame(2, 2)", "areSame(2, 3)", "areSame(2, 1)", "areSame(1, 2)",
                        "areSame(2, 4)", "areSame(4, 2)")
                .answers("areSame(4, 5)", true);
        Story.listedFirst(21)
                .after("vector()", "open(0)", "makeLasting(1)").refuses(Story.INDEX, "areSame(1, 3)", "areSame(3, 1)", "areSame(1, -1)",
                        "areSame(-1, 1)").refuses(Story.MISSING, "areSame(1, 1)");
    }

    private static void made() {
        Story.promise(22, "Returns how many nodes were made for all values so far.")
                .answers("made()", 0L).after("vector()").answers("made()", 1L).after("append(0, 1)").answers("made()", 2L)
                .after("set(1, 0, 1)").answers("made()", 2L).after("set(1, 0, 2)").answers("made()", 3L).after("cut(1)")
                .answers("made()", 4L).after("open(1)").answers("made()", 4L).after("setIn(5, 0, 1)").answers("made()", 4L)
                .after("setIn(5, 0, 3)").answers("made()", 5L).after("appendTo(5, 4)").answers("made()", 5L).after("makeLasting(5)")
                .answers("made()", 5L).after("map()").answers("made()", 6L).after("put(7, 0, 1)").answers("made()", 7L)
                .after("put(8, 118, 1)").answers("made()", 12L).after("put(9, 118, 1)").answers("made()", 12L)
                .after("without(9, 0)").answers("made()", 13L).after("range(1, 1, 24)", "at(0, 23)").answers("made()", 13L)
                .after("collect(0)").answers("made()", 22L);
        Story.promise(22, "Returns the number of nodes.")
                .after(Story.repeated("vector()", 0, 59)).answers("made()", 60L).refuses(Story.STATE, "vector()", "map()", "append(0, 1)")
                .answers("made()", 60L);
    }

    private static void sharing() {
        Story.promise(50, "Returns the mean share of nodes: the number of different nodes of all values divided by the sum of the numbers "
                + "of nodes of all values, both converted to float.")
                .after(Story.grown(64)).answers("sharing()", 1.0f).after("set(2, 0, 1)").answers("sharing()", 22.0f / 43.0f)
                .after("set(2, 0, 0)").answers("sharing()", 25.0f / 64.0f).after("open(2)").answers("sharing()", 25.0f / 85.0f)
                .after("setIn(5, 0, 7)").answers("sharing()", 28.0f / 85.0f).after("makeLasting(5)").answers("sharing()", 28.0f / 85.0f)
                .after("map()", "put(7, 0, 1)", "put(8, 0, 1)").answers("sharing()", 30.0f / 88.0f);
        Story.promise(50, "Returns the share.")
                .after("vector()").answers("sharing()", 1.0f).after("vector()", "map()").answers("sharing()", 1.0f).after("open(0)")
                .answers("sharing()", 0.75f).after("open(0)", "open(0)").answers("sharing()", 0.5f).after("appendTo(3, 1)")
                .answers("sharing()", 4.0f / 6.0f);
        Story.promise(50, "Returns the share.")
                .after("map()", "put(0, 0, 1)", "put(1, 118, 2)", "put(2, 118, 3)").answers("sharing()", 1.0f).after("put(3, 1, 9)")
                .answers("sharing()", 13.0f / 17.0f).after("put(3, 118, 3)").answers("sharing()", 13.0f / 22.0f);
        Story most = Story.promise(50, "Returns the share.").after(Story.grown(64));
        for (int i = 3; i < 60; i++) {
            most.answers("open(2)", i);
        }
        most.answers("sharing()", 22.0f / (1 + 58 * 21));
        Story.promise(50, "Throws `NoSuchElementException` if there are no values with nodes")
                .refuses(Story.MISSING, "sharing()").after("range(1, 1, 4)", "addReference(0, 0, 0)", "addAgent(0, 0, 0, 'f')", "all(0)")
                .refuses(Story.MISSING, "sharing()").after("map()").answers("sharing()", 1.0f);
        Story.promise(50, "Throws `NoSuchElementException` if there are no values with nodes")
                .after("vector()").answers("sharing()", 1.0f).after("open(0)", "makeLasting(1)").answers("sharing()", 0.5f);
    }
}
