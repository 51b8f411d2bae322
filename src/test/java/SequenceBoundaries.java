/** Promises 23 to 29, and what stands under Sequences and Realising. */
final class SequenceBoundaries {
    private static final String NO_SEQUENCE = "Throws `IndexOutOfBoundsException` if there is no such sequence";
    private static final String TWELVE = "Throws `IllegalStateException` if there are 12 sequences";
    private static final String BY_0 = "Throws `UnsupportedOperationException` if an element would be divided by 0";
    private static final String ELEMENT = "Returns an element of a sequence, and realises as many chunks as are needed for it; "
            + "an element that is not there needs all chunks.";
    private static final String WAYS = "Each other one is made over an earlier one, its source, by a way and a number: 'a', each element of "
            + "the source plus the number; 'd', the number divided by each element, cut towards 0; 'k', those elements of the source that "
            + "can be divided by the number; 't', the first elements of the source, as many as the number tells, or all.";
    private static final String CHUNKS = "A sequence consists of chunks: a range of chunks of 4 elements, of which the last may have fewer; "
            + "by 'a', 'd' and 'k', each chunk of the source makes one chunk, which may be empty; by 't', each element is a chunk.";
    private static final String REALISED = "Chunks of a sequence are realised in their order, each one once, when they are needed: to realise "
            + "a chunk by 'a', 'd' or 'k', the chunk of the source is realised first, if it was not; to realise one by 't', as many chunks "
            + "of the source as are needed for its element, and all of them if the number is greater than that of the elements, and all "
            + "chunks by 't' are to be realised.";
    private static final String NOTHING = "If an element would be divided by 0 in a chunk that would be realised, nothing is realised at all.";

    private SequenceBoundaries() {
    }

    static void tell() {
        range();
        rangeRefuses();
        over();
        overRefuses();
        at();
        atRefuses();
        all();
        realised();
        chunks();
        collect();
        collectRefuses();
        collectListedFirst();
        sequences();
        ways();
        rowsOfChunks();
        needed();
        neededByFirstOnes();
        neededAlongChains();
        asked();
        dividedBy0();
        dividedBy0InChains();
    }

    private static Story elements(Story story, int sequence, int... due) {
        story.answers("all(" + sequence + ")", due.length);
        for (int i = 0; i < due.length; i++) {
            story.answers("at(" + sequence + ", " + i + ")", due[i]);
        }
        return story.refuses(Story.MISSING, "at(" + sequence + ", " + due.length + ")", "at(" + sequence + ", -1)");
    }

    /** Of each sequence from 0 on: how many chunks and elements are realised. */
    private static Story counts(Story story, int... chunksAndElements) {
        for (int i = 0; i < chunksAndElements.length; i += 2) {
            story.answers("chunks(" + i / 2 + ")", chunksAndElements[i]).answers("realised(" + i / 2 + ")", chunksAndElements[i + 1]);
        }
        return story;
    }

    private static void range() {
        elements(Story.promise(23, "Makes a range.").answers("range(3, 2, 5)", 0), 0, 3, 5, 7, 9, 11);
        elements(Story.promise(23, "- `from`: the first number, -99 to 99").answers("range(-99, 1, 2)", 0)
                .answers("range(99, 1, 2)", 1).refuses(Story.ARGUMENT, "range(-100, 1, 2)", "range(100, 1, 2)")
                .answers("at(1, 0)", 99).answers("at(1, 1)", 100), 0, -99, -98);
        elements(Story.promise(23, "- `step`: the step, -9 to 9").answers("range(0, -9, 3)", 0).answers("range(0, 9, 3)", 1)
                .refuses(Story.ARGUMENT, "range(0, -10, 3)", "range(0, 10, 3)").answers("range(0, 0, 3)", 2)
                .answers("at(1, 2)", 18).answers("at(2, 2)", 0).answers("at(0, 2)", -18), 2, 0, 0, 0);
        Story.promise(23, "- `many`: how many numbers, 0 to 24").answers("range(1, 1, 0)", 0).answers("range(1, 1, 24)", 1)
                .refuses(Story.ARGUMENT, "range(1, 1, -1)", "range(1, 1, 25)").answers("all(0)", 0).answers("all(1)", 24)
                .answers("at(1, 23)", 24).refuses(Story.MISSING, "at(1, 24)", "at(0, 0)").answers("range(1, 1, 1)", 2).answers("all(2)", 1);
        Story numbers = Story.promise(23, "Returns the number of the sequence.");
        for (int i = 0; i < 12; i++) {
            numbers.answers("range(" + i + ", 1, 1)", i).answers("at(" + i + ", 0)", i);
        }
    }

    private static void rangeRefuses() {
        Story.promise(23, "Throws `IllegalArgumentException` if a number is out of range")
                .refuses(Story.ARGUMENT, "range(-100, 0, 1)", "range(100, 0, 1)", "range(MIN, 0, 1)", "range(MAX, 0, 1)", "range(0, -10, 1)",
                        "range(0, 10, 1)", "range(0, MIN, 1)", "range(0, MAX, 1)", "range(0, 0, -1)", "range(0, 0, 25)", "range(0, 0, MIN)",
                        "range(0, 0, MAX)")
                .answers("range(-99, -9, 0)", 0).answers("range(99, 9, 24)", 1).answers("at(1, 23)", 306).answers("range(-99, -9, 24)", 2)
                .answers("at(2, 23)", -306);
        Story.promise(23, TWELVE)
                .after(Story.repeated("range(#, 1, 1)", 0, 10)).answers("range(11, 1, 1)", 11)
                .refuses(Story.STATE, "range(12, 1, 1)", "range(0, 0, 0)").refuses(Story.INDEX, "at(12, 0)").answers("at(11, 0)", 11);
        Story.listedFirst(23)
                .after(Story.repeated("range(#, 1, 1)", 0, 11))
                .refuses(Story.ARGUMENT, "range(100, 0, 0)", "range(0, 10, 0)", "range(0, 0, 25)", "range(0, 0, -1)")
                .refuses(Story.STATE, "range(99, 9, 24)");
    }

    private static void over() {
        elements(Story.promise(24, "Makes a sequence over another one.").after("range(1, 1, 5)").answers("over(0, 'a', 10)", 1),
                1, 11, 12, 13, 14, 15);
        String number = "- `number`: the number, -99 to 99; from 1 on for 'k', from 0 on for 't'";
        Story ranges = Story.promise(24, number).after("range(1, 1, 5)");
        ranges.answers("over(0, 'a', -99)", 1).answers("over(0, 'a', 99)", 2).refuses(Story.ARGUMENT, "over(0, 'a', -100)", "over(0, 'a', 100)")
                .answers("over(0, 'd', -99)", 3).answers("over(0, 'd', 99)", 4).refuses(Story.ARGUMENT, "over(0, 'd', -100)", "over(0, 'd', 100)")
                .answers("over(0, 'k', 1)", 5).answers("over(0, 'k', 99)", 6)
                .refuses(Story.ARGUMENT, "over(0, 'k', 0)", "over(0, 'k', -1)", "over(0, 'k', -99)", "over(0, 'k', 100)")
                .answers("over(0, 't', 0)", 7).answers("over(0, 't', 99)", 8)
                .refuses(Story.ARGUMENT, "over(0, 't', -1)", "over(0, 't', -99)", "over(0, 't', 100)")
                .answers("over(0, 'a', 0)", 9).answers("over(0, 'd', 0)", 10).answers("over(0, 't', 1)", 11)
                .answers("at(1, 0)", -98).answers("at(2, 4)", 104).answers("at(3, 1)", -49).answers("at(4, 1)", 49).answers("all(5)", 5)
                .answers("all(6)", 0).answers("all(7)", 0).answers("all(8)", 5).answers("at(9, 4)", 5).answers("at(10, 4)", 0).answers("all(11)", 1);
        Story numbers = Story.promise(24, "Returns the number of the sequence.").after("range(1, 1, 1)");
        for (int i = 1; i < 12; i++) {
            numbers.answers("over(" + (i - 1) + ", 'a', 1)", i).answers("at(" + i + ", 0)", i + 1);
        }
    }

    private static void overRefuses() {
        Story.promise(24, NO_SEQUENCE)
                .refuses(Story.INDEX, "over(0, 'a', 1)").after("range(1, 1, 1)")
                .refuses(Story.INDEX, "over(1, 'a', 1)", "over(-1, 'a', 1)", "over(MAX, 'a', 1)", "over(MIN, 'a', 1)")
                .answers("over(0, 'a', 1)", 1).answers("over(1, 'a', 1)", 2).refuses(Story.INDEX, "over(3, 'a', 1)");
        Story.promise(24, "Throws `IllegalArgumentException` if there is no such way, or the number is out of range")
                .after("range(1, 1, 4)")
                .refuses(Story.ARGUMENT, "over(0, '`', 1)", "over(0, 'b', 1)", "over(0, 'c', 1)", "over(0, 'e', 1)", "over(0, 'j', 1)",
                        "over(0, 'l', 1)", "over(0, 's', 1)", "over(0, 'u', 1)", "over(0, 'A', 1)", "over(0, 'D', 1)", "over(0, 'K', 1)",
                        "over(0, 'T', 1)", "over(0, 'r', 1)", "over(0, c0, 1)", "over(0, c65535, 1)", "over(0, c353, 1)")
                .refuses(Story.ARGUMENT, "over(0, 'a', 100)", "over(0, 'a', -100)", "over(0, 'd', 100)", "over(0, 'd', -100)",
                        "over(0, 'k', 0)", "over(0, 'k', 100)", "over(0, 't', -1)", "over(0, 't', 100)", "over(0, 'a', MIN)",
                        "over(0, 'd', MAX)", "over(0, 'k', MIN)", "over(0, 't', MAX)")
                .answers("over(0, 'a', 1)", 1).answers("over(0, 'd', 1)", 2).answers("over(0, 'k', 1)", 3).answers("over(0, 't', 1)", 4);
        Story.promise(24, TWELVE)
                .after("range(1, 1, 1)").after(Story.repeated("over(0, 'a', #)", 1, 10)).answers("over(0, 't', 1)", 11)
                .refuses(Story.STATE, "over(0, 'a', 1)", "over(11, 'd', 1)", "over(11, 'k', 1)", "over(11, 't', 0)");
        Story.listedFirst(24)
                .after("range(1, 1, 1)").refuses(Story.INDEX, "over(1, 'x', 1)", "over(-1, 'a', 100)", "over(1, 'k', 0)")
                .after(Story.repeated("over(0, 'a', #)", 1, 11)).refuses(Story.INDEX, "over(12, 'a', 1)", "over(12, 'x', 100)", "over(-1, 'a', 1)")
                .refuses(Story.ARGUMENT, "over(0, 'x', 1)", "over(0, 'a', 100)", "over(0, 'k', 0)", "over(0, 't', -1)")
                .refuses(Story.STATE, "over(0, 'k', 1)", "over(0, 't', 0)");
    }

    private static void at() {
        for (int place = 0; place < 24; place++) {
            int chunks = place / 4 + 1;
            counts(Story.promise(25, ELEMENT).after("range(1, 1, 24)", "over(0, 'a', 1)", "over(1, 't', 24)")
                    .answers("at(1, " + place + ")", place + 2), chunks, 4 * chunks, chunks, 4 * chunks, 0, 0);
            counts(Story.promise(25, ELEMENT).after("range(1, 1, 24)", "over(0, 'a', 1)", "over(1, 't', 24)")
                    .answers("at(2, " + place + ")", place + 2), chunks, 4 * chunks, chunks, 4 * chunks, place + 1, place + 1);
        }
        counts(Story.promise(25, ELEMENT).after("range(1, 1, 6)", "over(0, 'a', 1)").refuses(Story.MISSING, "at(1, 6)", "at(1, -1)")
                .answers("at(1, 5)", 7), 2, 6, 2, 6);
        counts(Story.promise(25, ELEMENT).after("range(-4, 1, 8)", "over(0, 'd', 12)").answers("at(1, 3)", -12)
                .refuses(Story.UNSUPPORTED, "at(1, 8)", "at(1, -1)", "at(1, 99)"), 1, 4, 1, 4);
        Story place = Story.promise(25, "- `place`: the place, from 0").after("range(7, 1, 5)").answers("at(0, 0)", 7);
        counts(place.refuses(Story.MISSING, "at(0, -1)").answers("at(0, 3)", 10), 1, 4).answers("at(0, 4)", 11).refuses(Story.MISSING, "at(0, 5)");
        counts(place, 2, 5);
        Story.promise(25, "Returns the element.").after("range(-99, -9, 24)", "over(0, 'a', -99)").answers("at(0, 0)", -99)
                .answers("at(0, 23)", -306).answers("at(1, 0)", -198).answers("at(1, 23)", -405).answers("at(1, 0)", -198);
    }

    private static void atRefuses() {
        Story.promise(25, NO_SEQUENCE)
                .refuses(Story.INDEX, "at(0, 0)").after("range(1, 1, 1)")
                .refuses(Story.INDEX, "at(1, 0)", "at(-1, 0)", "at(MAX, 0)", "at(MIN, 0)").answers("at(0, 0)", 1)
                .after(Story.repeated("range(#, 1, 1)", 1, 11)).answers("at(11, 0)", 11).refuses(Story.INDEX, "at(12, 0)");
        Story.promise(25, BY_0)
                .after("range(-4, 1, 8)", "over(0, 'd', 12)", "over(1, 'a', 1)", "over(1, 'k', 99)")
                .refuses(Story.UNSUPPORTED, "at(1, 4)", "at(1, 5)", "at(1, 7)", "at(1, 8)", "at(1, -1)", "at(2, 4)", "at(2, 7)", "at(3, 0)",
                        "at(3, -1)", "at(1, MAX)", "at(1, MIN)")
                .answers("at(2, 3)", -11).answers("at(1, 3)", -12).answers("at(1, 0)", -3);
        Story.promise(25, "Throws `NoSuchElementException` if there is no such element")
                .after("range(1, 1, 5)", "over(0, 'k', 5)", "over(0, 't', 2)", "range(1, 1, 0)", "over(3, 'd', 1)")
                .answers("at(0, 4)", 5).refuses(Story.MISSING, "at(0, 5)", "at(0, -1)", "at(0, MAX)", "at(0, MIN)", "at(0, 24)")
                .answers("at(1, 0)", 5).refuses(Story.MISSING, "at(1, 1)", "at(1, -1)").answers("at(2, 1)", 2)
                .refuses(Story.MISSING, "at(2, 2)", "at(2, -1)", "at(3, 0)", "at(3, -1)", "at(4, 0)", "at(4, -1)");
        Story.listedFirst(25)
                .after("range(-4, 1, 8)", "over(0, 'd', 12)", "over(1, 't', 4)")
                .refuses(Story.INDEX, "at(3, -1)", "at(-1, 9)").refuses(Story.UNSUPPORTED, "at(1, 8)", "at(1, -1)")
                .refuses(Story.MISSING, "at(2, 4)", "at(2, -1)");
    }

    private static void all() {
        for (int many = 0; many <= 24; many++) {
            int chunks = (many + 3) / 4;
            counts(Story.promise(26, "Realises all chunks of a sequence.").after("range(1, 1, " + many + ")", "over(0, 'a', 1)")
                    .answers("all(1)", many).answers("all(1)", many), chunks, many, chunks, many);
        }
        Story.promise(26, "Returns how many elements it has.")
                .after("range(1, 1, 24)", "over(0, 'k', 24)", "over(0, 'k', 25)", "over(0, 't', 23)", "over(0, 't', 24)", "over(0, 't', 25)",
                        "over(0, 't', 0)", "range(1, 1, 0)")
                .answers("all(0)", 24).answers("all(1)", 1).answers("all(2)", 0).answers("all(3)", 23).answers("all(4)", 24)
                .answers("all(5)", 24).answers("all(6)", 0).answers("all(7)", 0);
        Story.promise(26, NO_SEQUENCE)
                .refuses(Story.INDEX, "all(0)").after("range(1, 1, 1)").refuses(Story.INDEX, "all(1)", "all(-1)", "all(MAX)", "all(MIN)")
                .answers("all(0)", 1).after(Story.repeated("range(#, 1, 2)", 1, 11)).answers("all(11)", 2).refuses(Story.INDEX, "all(12)");
        for (int from = -9; from <= 1; from++) {
            Story story = Story.promise(26, BY_0).after("range(" + from + ", 1, 8)", "over(0, 'd', 12)");
            boolean by0 = from <= 0 && from > -8;
            if (by0) {
                counts(story.refuses(Story.UNSUPPORTED, "all(1)"), 0, 0, 0, 0);
            } else {
                counts(story.answers("all(1)", 8), 2, 8, 2, 8);
            }
        }
        counts(Story.promise(26, BY_0).after("range(-4, 1, 8)", "over(0, 'd', 12)", "over(1, 't', 4)", "over(1, 't', 5)", "over(1, 't', 9)")
                .refuses(Story.UNSUPPORTED, "all(1)", "all(3)", "all(4)").answers("all(2)", 4), 1, 4, 1, 4, 4, 4, 0, 0, 0, 0);
        Story.listedFirst(26).after("range(0, 0, 1)", "over(0, 'd', 1)").refuses(Story.INDEX, "all(2)", "all(-1)")
                .refuses(Story.UNSUPPORTED, "all(1)");
    }

    private static void realised() {
        Story elements = Story.promise(27, "Returns how many elements of a sequence are realised.").after("range(1, 1, 23)").answers("realised(0)", 0);
        int[] due = {4, 8, 12, 16, 20, 23};
        for (int i = 0; i < due.length; i++) {
            elements.after("at(0, " + 4 * i + ")").answers("realised(0)", due[i]);
        }
        elements.after("at(0, 0)", "all(0)").answers("realised(0)", 23);
        Story.promise(27, "Returns the number of elements.")
                .after("range(1, 1, 12)", "over(0, 'k', 6)", "over(0, 't', 5)", "range(1, 1, 0)").after("at(1, 0)").answers("realised(1)", 1)
                .answers("realised(0)", 8).answers("realised(2)", 0).after("at(2, 4)").answers("realised(2)", 5).answers("realised(0)", 8)
                .after("all(1)").answers("realised(1)", 2).answers("realised(0)", 12).after("all(3)").answers("realised(3)", 0);
        Story.promise(27, NO_SEQUENCE)
                .refuses(Story.INDEX, "realised(0)").after("range(1, 1, 1)")
                .refuses(Story.INDEX, "realised(1)", "realised(-1)", "realised(MAX)", "realised(MIN)").answers("realised(0)", 0)
                .after(Story.repeated("range(#, 1, 1)", 1, 11)).answers("realised(11)", 0).refuses(Story.INDEX, "realised(12)");
    }

    private static void chunks() {
        Story chunks = Story.promise(28, "Returns how many chunks of a sequence are realised.").after("range(1, 1, 21)").answers("chunks(0)", 0);
        for (int i = 0; i < 6; i++) {
            chunks.after("at(0, " + 4 * i + ")").answers("chunks(0)", i + 1);
        }
        chunks.after("at(0, 3)", "all(0)").answers("chunks(0)", 6);
        Story.promise(28, "Returns the number of chunks.")
                .after("range(1, 1, 12)", "over(0, 'k', 6)", "over(0, 't', 5)", "range(1, 1, 0)", "over(3, 'a', 1)").after("at(1, 0)")
                .answers("chunks(1)", 2).answers("chunks(0)", 2).after("all(2)").answers("chunks(2)", 5).answers("chunks(0)", 2).after("all(1)")
                .answers("chunks(1)", 3).after("all(3)", "all(4)").answers("chunks(3)", 0).answers("chunks(4)", 0);
        Story.promise(28, NO_SEQUENCE)
                .refuses(Story.INDEX, "chunks(0)").after("range(1, 1, 1)")
                .refuses(Story.INDEX, "chunks(1)", "chunks(-1)", "chunks(MAX)", "chunks(MIN)").answers("chunks(0)", 0)
                .after(Story.repeated("range(#, 1, 1)", 1, 11)).answers("chunks(11)", 0).refuses(Story.INDEX, "chunks(12)");
    }

    private static void collect() {
        String said = "Makes a vector of all elements of a sequence, and realises all of its chunks.";
        for (int many : new int[] {0, 1, 4, 5, 16, 17, 23, 24}) {
            Story story = Story.promise(29, said).after("range(5, 3, " + many + ")", "over(0, 'a', -2)").answers("collect(1)", 0)
                    .answers("size(0)", many).answers("depth(0)", many <= 4 ? 1 : many <= 16 ? 2 : 3).answers("isOpen(0)", false);
            for (int i = 0; i < many; i++) {
                story.answers("get(0, " + i + ")", 3 + 3 * i).answers("getPlain(0, " + i + ")", 3 + 3 * i);
            }
            counts(story.refuses(Story.MISSING, "get(0, " + many + ")", "getPlain(0, " + many + ")", "get(0, -1)"), (many + 3) / 4, many,
                    (many + 3) / 4, many).answers("append(0, 9)", 1).answers("size(1)", many + 1).answers("get(1, " + many + ")", 9)
                    .answers("open(0)", 2).after("appendTo(2, 9)").answers("areSame(1, 2)", true).answers("size(0)", many);
        }
        Story numbers = Story.promise(29, "Returns the number of the value.").after("range(1, 1, 2)", "vector()");
        for (int i = 1; i < 60; i++) {
            numbers.answers("collect(0)", i);
        }
        numbers.answers("get(59, 1)", 2);
    }

    private static void collectRefuses() {
        Story.promise(29, NO_SEQUENCE)
                .refuses(Story.INDEX, "collect(0)").after("range(1, 1, 1)")
                .refuses(Story.INDEX, "collect(1)", "collect(-1)", "collect(MAX)", "collect(MIN)").answers("collect(0)", 0)
                .after(Story.repeated("range(#, 1, 1)", 1, 11)).answers("collect(11)", 1).refuses(Story.INDEX, "collect(12)");
        counts(Story.promise(29, BY_0).after("range(-4, 1, 8)", "over(0, 'd', 12)", "over(1, 't', 4)", "over(1, 't', 5)")
                .refuses(Story.UNSUPPORTED, "collect(1)", "collect(3)").answers("made()", 0L).answers("collect(2)", 0).answers("get(0, 3)", -12),
                1, 4, 1, 4, 4, 4, 0, 0);
        String elements = "Throws `IllegalArgumentException` if an element is not from -999 to 999";
        for (int sign = -1; sign <= 1; sign += 2) {
            Story story = Story.promise(29, elements).after("range(" + 99 * sign + ", " + 9 * sign + ", 24)");
            for (int i = 0; i < 7; i++) {
                story.after("over(" + i + ", 'a', " + 99 * sign + ")");
            }
            story.after("over(7, 'a', " + sign + ")").answers("at(7, 0)", 792 * sign).answers("at(8, 0)", 793 * sign)
                    .refuses(Story.ARGUMENT, "collect(8)").answers("chunks(8)", 1).answers("chunks(7)", 1).answers("collect(7)", 0)
                    .answers("get(0, 23)", 999 * sign).answers("chunks(7)", 6).answers("at(8, 23)", 1000 * sign)
                    .refuses(Story.ARGUMENT, "collect(8)").after("over(8, 't', 23)").answers("collect(9)", 1).answers("get(1, 22)", 991 * sign);
            Story first = Story.promise(29, elements).after("range(" + 99 * sign + ", " + -9 * sign + ", 2)");
            for (int i = 0; i < 9; i++) {
                first.after("over(" + i + ", 'a', " + 99 * sign + ")");
            }
            first.after("over(9, 'a', " + 9 * sign + ")", "over(9, 'a', " + 10 * sign + ")").refuses(Story.ARGUMENT, "collect(11)")
                    .answers("collect(10)", 0).answers("get(0, 0)", 999 * sign).answers("get(0, 1)", 990 * sign).answers("at(11, 0)", 1000 * sign);
        }
        counts(Story.promise(29, "Throws `IllegalStateException` if there are 60 values")
                .after(Story.repeated("vector()", 0, 58)).after("range(1, 1, 5)", "range(1, 1, 5)").answers("collect(0)", 59)
                .refuses(Story.STATE, "collect(1)", "collect(0)").answers("made()", 62L), 2, 5, 0, 0);
    }

    private static void collectListedFirst() {
        Story both = Story.listedFirst(29).after("range(-4, 1, 8)", "over(0, 'd', 99)");
        for (int i = 1; i < 11; i++) {
            both.after("over(" + i + ", 'a', -99)");
        }
        both.refuses(Story.UNSUPPORTED, "collect(11)").answers("at(11, 0)", -1014).refuses(Story.UNSUPPORTED, "collect(11)")
                .refuses(Story.INDEX, "collect(12)").after(Story.repeated("vector()", 0, 59))
                .refuses(Story.INDEX, "collect(12)", "collect(-1)").refuses(Story.UNSUPPORTED, "collect(11)", "collect(1)").refuses(Story.STATE, "collect(0)");
        Story high = Story.listedFirst(29).after("range(99, 9, 24)");
        for (int i = 0; i < 8; i++) {
            high.after("over(" + i + ", 'a', 99)");
        }
        high.after(Story.repeated("vector()", 0, 59)).refuses(Story.ARGUMENT, "collect(8)").refuses(Story.STATE, "collect(7)", "collect(0)");
    }

    private static void sequences() {
        Story.term("Sequences", "23, 24", "At most 12 sequences are numbered from 0.")
                .refuses(Story.INDEX, "chunks(0)").answers("range(1, 1, 1)", 0).answers("over(0, 'a', 1)", 1).answers("range(1, 1, 1)", 2)
                .answers("over(1, 't', 1)", 3).after(Story.repeated("range(#, 1, 1)", 4, 10)).refuses(Story.INDEX, "chunks(11)")
                .answers("over(10, 'k', 1)", 11).answers("chunks(11)", 0).refuses(Story.STATE, "range(1, 1, 1)", "over(0, 'a', 1)")
                .refuses(Story.INDEX, "chunks(12)", "chunks(-1)");
        chainsOfTwelve();
        Story rising = Story.term("Sequences", "23, 25", "A range has numbers that begin with one and go on by a step.")
                .after("range(-99, 9, 24)", "range(99, -9, 24)", "range(42, 0, 24)");
        for (int i = 0; i < 24; i++) {
            rising.answers("at(0, " + i + ")", 9 * i - 99).answers("at(1, " + i + ")", 99 - 9 * i).answers("at(2, " + i + ")", 42);
        }
    }

    /** The last of 12 sequences, each over the one before, needs something of all of them. */
    private static void chainsOfTwelve() {
        String said = "At most 12 sequences are numbered from 0.";
        String[] adding = Story.joined(new String[] {"range(1, 1, 24)"}, Story.repeated("over(#, 'a', 1)", 0, 10));
        String[] firstOnes = Story.joined(new String[] {"range(1, 1, 24)"}, Story.repeated("over(#, 't', 99)", 0, 10));
        Story one = Story.term("Sequences", "24, 25, 28", said).after(adding).answers("at(11, 3)", 15);
        Story all = Story.term("Sequences", "24, 26, 28", said).after(adding).answers("all(11)", 24);
        Story first = Story.term("Sequences", "24, 25, 28", said).after(firstOnes).answers("at(11, 3)", 4);
        Story last = Story.term("Sequences", "24, 26, 28", said).after(firstOnes).answers("all(11)", 24);
        for (int i = 0; i < 12; i++) {
            one.answers("chunks(" + i + ")", 1).answers("realised(" + i + ")", 4);
            all.answers("chunks(" + i + ")", 6).answers("realised(" + i + ")", 24);
            first.answers("chunks(" + i + ")", i == 0 ? 1 : 4).answers("realised(" + i + ")", 4);
            last.answers("chunks(" + i + ")", i == 0 ? 6 : 24).answers("realised(" + i + ")", 24);
        }
    }

    private static void ways() {
        Story story = Story.term("Sequences", "24, 25", WAYS).after("range(-7, 2, 8)", "over(0, 'a', 7)", "over(0, 'd', 7)", "over(0, 'd', -7)",
                "over(0, 'd', 99)", "over(0, 'd', 0)", "over(0, 'd', 1)", "over(0, 'k', 1)", "over(0, 'k', 7)", "over(0, 'k', 8)", "over(0, 't', 7)",
                "over(0, 't', 9)");
        elements(story, 1, 0, 2, 4, 6, 8, 10, 12, 14);
        elements(story, 2, -1, -1, -2, -7, 7, 2, 1, 1);
        elements(story, 3, 1, 1, 2, 7, -7, -2, -1, -1);
        elements(story, 4, -14, -19, -33, -99, 99, 33, 19, 14);
        elements(story, 5, 0, 0, 0, 0, 0, 0, 0, 0);
        elements(story, 6, 0, 0, 0, -1, 1, 0, 0, 0);
        elements(story, 7, -7, -5, -3, -1, 1, 3, 5, 7);
        elements(story, 8, -7, 7);
        elements(story, 9);
        elements(story, 10, -7, -5, -3, -1, 1, 3, 5);
        elements(story, 11, -7, -5, -3, -1, 1, 3, 5, 7);
        Story kept = Story.term("Sequences", "24, 25", WAYS).after("range(-6, 2, 7)", "over(0, 'k', 4)", "over(0, 'k', 99)", "over(0, 'k', 6)",
                "over(0, 't', 0)", "over(0, 't', 1)", "over(0, 't', 6)", "over(0, 't', 7)", "over(0, 't', 8)", "over(0, 't', 99)");
        elements(kept, 1, -4, 0, 4);
        elements(kept, 2, 0);
        elements(kept, 3, -6, 0, 6);
        elements(kept, 4);
        elements(kept, 5, -6);
        elements(kept, 6, -6, -4, -2, 0, 2, 4);
        elements(kept, 7, -6, -4, -2, 0, 2, 4, 6);
        elements(kept, 8, -6, -4, -2, 0, 2, 4, 6);
        elements(kept, 9, -6, -4, -2, 0, 2, 4, 6);
        Story none = Story.term("Sequences", "24, 25", WAYS).after("range(0, 0, 0)", "over(0, 'a', 1)", "over(0, 'd', 1)", "over(0, 'k', 1)",
                "over(0, 't', 1)");
        for (int i = 0; i <= 4; i++) {
            elements(none, i);
        }
    }

    private static void rowsOfChunks() {
        int[] many = {0, 1, 3, 4, 5, 7, 8, 9, 12, 13, 16, 17, 20, 21, 23, 24};
        for (int one : many) {
            int chunks = (one + 3) / 4;
            Story story = Story.term("Sequences", "23, 27, 28", CHUNKS).after("range(1, 1, " + one + ")", "over(0, 'a', 1)", "over(0, 'd', 9)",
                    "over(0, 'k', 99)", "over(0, 't', 99)", "over(4, 'a', 1)", "over(4, 'k', 99)", "over(1, 't', 2)");
            story.answers("all(1)", one).answers("all(2)", one).answers("all(3)", 0).answers("all(5)", one).answers("all(6)", 0)
                    .answers("all(7)", Math.min(one, 2));
            counts(story, chunks, one, chunks, one, chunks, one, chunks, 0, one, one, one, one, one, 0, Math.min(one, 2), Math.min(one, 2));
        }
        counts(Story.term("Sequences", "25, 27, 28", CHUNKS).after("range(1, 1, 10)").answers("at(0, 3)", 4), 1, 4);
        counts(Story.term("Sequences", "25, 27, 28", CHUNKS).after("range(1, 1, 10)").answers("at(0, 4)", 5), 2, 8);
        counts(Story.term("Sequences", "25, 27, 28", CHUNKS).after("range(1, 1, 10)").answers("at(0, 8)", 9), 3, 10);
        counts(Story.term("Sequences", "25, 27, 28", CHUNKS).after("range(1, 1, 12)", "over(0, 'k', 4)", "over(1, 'a', 0)", "over(1, 't', 3)")
                .answers("at(2, 1)", 8).answers("at(3, 0)", 4), 2, 8, 2, 2, 2, 2, 1, 1);
    }

    private static void needed() {
        Story order = Story.term("Realising", "25, 28", REALISED).after("range(1, 1, 24)", "over(0, 'a', 1)").answers("at(1, 20)", 22);
        counts(order, 6, 24, 6, 24).answers("at(1, 0)", 2).answers("at(0, 23)", 24).answers("all(1)", 24);
        counts(order, 6, 24, 6, 24);
        Story once = Story.term("Realising", "25, 28", REALISED).after("range(1, 1, 12)", "over(0, 'a', 1)", "over(0, 'k', 2)").answers("at(0, 5)", 6);
        counts(once, 2, 8, 0, 0, 0, 0).answers("at(1, 0)", 2);
        counts(once, 2, 8, 1, 4, 0, 0).answers("at(2, 2)", 6);
        counts(once, 2, 8, 1, 4, 2, 4).answers("at(1, 8)", 10);
        counts(once, 3, 12, 3, 12, 2, 4).answers("all(2)", 6);
        counts(once, 3, 12, 3, 12, 3, 6);
        Story late = Story.term("Realising", "25, 28", REALISED).after("range(1, 1, 12)").answers("all(0)", 12).after("over(0, 'a', 1)", "over(0, 't', 2)");
        counts(late, 3, 12, 0, 0, 0, 0).answers("at(1, 0)", 2);
        counts(late, 3, 12, 1, 4, 0, 0);
    }

    /** By 't' over a sequence of 3 chunks, of which only the second has an element: 7. */
    private static void neededByFirstOnes() {
        String[] seven = {"range(1, 1, 12)", "over(0, 'k', 7)"};
        counts(Story.term("Realising", "25, 28", REALISED).after(seven).after("over(1, 't', 0)").answers("all(2)", 0), 0, 0, 0, 0, 0, 0);
        counts(Story.term("Realising", "25, 28", REALISED).after(seven).after("over(1, 't', 1)").answers("at(2, 0)", 7), 2, 8, 2, 1, 1, 1);
        counts(Story.term("Realising", "26, 28", REALISED).after(seven).after("over(1, 't', 1)").answers("all(2)", 1), 2, 8, 2, 1, 1, 1);
        counts(Story.term("Realising", "28, 29", REALISED).after(seven).after("over(1, 't', 1)").answers("collect(2)", 0), 2, 8, 2, 1, 1, 1);
        counts(Story.term("Realising", "25, 28", REALISED).after(seven).after("over(1, 't', 2)").answers("at(2, 0)", 7), 2, 8, 2, 1, 1, 1);
        counts(Story.term("Realising", "26, 28", REALISED).after(seven).after("over(1, 't', 2)").answers("all(2)", 1), 3, 12, 3, 1, 1, 1);
        counts(Story.term("Realising", "28, 29", REALISED).after(seven).after("over(1, 't', 2)").answers("collect(2)", 0), 3, 12, 3, 1, 1, 1);
        counts(Story.term("Realising", "25, 26, 28", REALISED).after(seven).after("over(1, 't', 2)").answers("at(2, 0)", 7).answers("all(2)", 1),
                3, 12, 3, 1, 1, 1);
        Story ranges = Story.term("Realising", "25, 28", REALISED).after("range(1, 1, 12)", "over(0, 't', 5)").answers("at(1, 3)", 4);
        counts(ranges, 1, 4, 4, 4).answers("at(1, 4)", 5);
        counts(ranges, 2, 8, 5, 5).answers("all(1)", 5);
        counts(ranges, 2, 8, 5, 5);
        for (int number : new int[] {4, 5, 8, 9, 12, 13, 99}) {
            int taken = Math.min(number, 12);
            int chunks = (taken + 3) / 4;
            counts(Story.term("Realising", "26, 28", REALISED).after("range(1, 1, 12)", "over(0, 't', " + number + ")").answers("all(1)", taken),
                    chunks, 4 * chunks, taken, taken);
        }
    }

    private static void neededAlongChains() {
        String[] chain = {"range(1, 1, 12)", "over(0, 'k', 7)", "over(1, 't', 2)", "over(2, 'a', 1)", "over(3, 't', 1)", "over(3, 't', 2)"};
        counts(Story.term("Realising", "25, 28", REALISED).after(chain).answers("at(3, 0)", 8), 2, 8, 2, 1, 1, 1, 1, 1, 0, 0, 0, 0);
        counts(Story.term("Realising", "26, 28", REALISED).after(chain).answers("all(4)", 1), 2, 8, 2, 1, 1, 1, 1, 1, 1, 1, 0, 0);
        counts(Story.term("Realising", "25, 28", REALISED).after(chain).answers("at(5, 0)", 8), 2, 8, 2, 1, 1, 1, 1, 1, 0, 0, 1, 1);
        counts(Story.term("Realising", "26, 28", REALISED).after(chain).answers("all(5)", 1), 3, 12, 3, 1, 1, 1, 1, 1, 0, 0, 1, 1);
        counts(Story.term("Realising", "26, 28", REALISED).after(chain).answers("all(3)", 1), 3, 12, 3, 1, 1, 1, 1, 1, 0, 0, 0, 0);
        counts(Story.term("Realising", "28, 29", REALISED).after(chain).answers("collect(3)", 0), 3, 12, 3, 1, 1, 1, 1, 1, 0, 0, 0, 0);
    }

    private static void asked() {
        String said = "An element is asked by realising as many chunks as are needed for it.";
        counts(Story.term("Realising", "25, 28", said).after("range(3, 1, 8)", "over(0, 'k', 6)", "over(1, 't', 2)").answers("at(2, 0)", 6), 1, 4, 1, 1, 1, 1);
        Story ends = Story.term("Realising", "25, 28", said).after("range(1, 1, 9)", "over(0, 'k', 4)").answers("at(1, 0)", 4);
        counts(ends, 1, 4, 1, 1).answers("at(1, 1)", 8);
        counts(ends, 2, 8, 2, 2).refuses(Story.MISSING, "at(1, 2)");
        counts(ends, 2, 8, 2, 2).answers("all(1)", 2);
        counts(ends, 3, 9, 3, 2);
        Story.term("Realising", "25, 28", said).after("range(1, 1, 24)").answers("at(0, 3)", 4).answers("chunks(0)", 1).answers("at(0, 4)", 5)
                .answers("chunks(0)", 2).answers("at(0, 7)", 8).answers("chunks(0)", 2).answers("at(0, 19)", 20).answers("chunks(0)", 5)
                .answers("at(0, 20)", 21).answers("chunks(0)", 6);
    }

    private static void dividedBy0() {
        for (int from = -7; from <= 0; from++) {
            Story story = Story.term("Realising", "25 to 29", NOTHING).after("range(" + from + ", 1, 12)", "over(0, 'd', 12)", "over(1, 'a', 1)");
            if (from > -4) {
                counts(story.refuses(Story.UNSUPPORTED, "at(1, 0)", "at(1, 3)", "at(2, 0)"), 0, 0, 0, 0, 0, 0);
            } else {
                story.answers("at(2, 3)", 12 / (from + 3) + 1).answers("at(1, 0)", 12 / from);
                counts(story, 1, 4, 1, 4, 1, 4);
            }
            story.refuses(Story.UNSUPPORTED, "at(1, 4)", "at(1, 7)", "at(1, 8)", "at(1, 11)", "at(2, 4)", "at(2, 11)", "at(2, 12)", "at(1, -1)", "all(1)",
                    "all(2)", "collect(1)", "collect(2)");
            int chunks = from > -4 ? 0 : 1;
            counts(story, chunks, 4 * chunks, chunks, 4 * chunks, chunks, 4 * chunks).answers("all(0)", 12).answers("chunks(1)", chunks);
        }
        counts(Story.term("Realising", "25 to 28", NOTHING).after("range(-2, 1, 4)", "over(0, 't', 4)", "over(1, 'd', 6)").answers("at(2, 1)", -6)
                .refuses(Story.UNSUPPORTED, "at(2, 2)", "at(2, 3)", "at(2, 4)", "all(2)"), 1, 4, 2, 2, 2, 2);
    }

    private static void dividedBy0InChains() {
        counts(Story.term("Realising", "25 to 28", NOTHING).after("range(1, 1, 8)", "over(0, 'd', 4)", "over(1, 'd', 9)").answers("at(2, 3)", 9)
                .refuses(Story.UNSUPPORTED, "at(2, 4)", "all(2)"), 1, 4, 1, 4, 1, 4);
        counts(Story.term("Realising", "25 to 28", NOTHING).after("range(-6, 3, 4)", "over(0, 'k', 6)", "over(1, 'd', 9)")
                .refuses(Story.UNSUPPORTED, "at(2, 0)", "all(2)").answers("at(1, 1)", 0), 1, 4, 1, 2, 0, 0);
        counts(Story.term("Realising", "25 to 28", NOTHING).after("range(0, 0, 0)", "over(0, 'd', 9)").answers("all(1)", 0), 0, 0, 0, 0);
        counts(Story.term("Realising", "25 to 28", NOTHING).after("range(0, 0, 5)", "over(0, 't', 0)", "over(1, 'd', 9)").answers("all(2)", 0),
                0, 0, 0, 0, 0, 0);
        counts(Story.term("Realising", "25 to 28", NOTHING).after("range(-4, 1, 12)", "over(0, 'd', 12)", "over(1, 'k', 4)", "over(2, 't', 2)",
                "over(2, 't', 3)").answers("at(3, 1)", -12).answers("all(3)", 2).refuses(Story.UNSUPPORTED, "at(4, 2)", "all(4)").answers("at(4, 1)", -12)
                .refuses(Story.MISSING, "at(3, 2)"), 1, 4, 1, 4, 1, 2, 2, 2, 2, 2);
    }
}
