/** What the document tells of the whole, ahead of its single terms. */
final class OverviewBoundaries {
    private static final String WHOLE = "Vectors and maps are tries that share their nodes, and never change once they are made; a vector can be opened, "
            + "changed in place where its nodes are its own, and made lasting again; sequences are realised chunk by chunk, each chunk once; "
            + "transactions see one moment of all references and commit whole or not at all, older ones ahead of younger ones; agents do what "
            + "was sent to them, and what is sent in a transaction waits for its commit.";
    private static final String SECOND = "Values can be found a second time from plain rows, and references from the log of commits.";

    private OverviewBoundaries() {
    }

    static void tell() {
        lastingVectors();
        lastingMaps();
        openedAndMadeLasting();
        chunkByChunk();
        oneMoment();
        wholeOrNotAtAll();
        olderAheadOfYounger();
        agents();
        plainRows();
        logOfCommits();
    }

    private static Story story(String promises) {
        return Story.term("Terms", promises, WHOLE);
    }

    private static void lastingVectors() {
        Story full = story("2 to 11").after(Story.grown(64)).answers("nodes(2)", 21).answers("set(2, 63, 0)", 3).answers("shared(2, 3)", 18)
                .answers("cut(2)", 4).answers("shared(2, 4)", 18).answers("open(2)", 5).answers("shared(2, 5)", 21).answers("setIn(5, 0, -1)", 3)
                .answers("shared(2, 5)", 18).answers("makeLasting(5)", 6).answers("shared(3, 6)", 16).answers("shared(4, 6)", 16);
        for (int place = 0; place < 64; place++) {
            full.answers("get(2, " + place + ")", place + 1).answers("get(4, " + Math.min(place, 62) + ")", Math.min(place, 62) + 1);
            full.answers("get(3, " + place + ")", place == 63 ? 0 : place + 1).answers("get(6, " + place + ")", place == 0 ? -1 : place + 1);
        }
        Story grown = story("2 to 6").after("vector()").after(Story.repeated("append(#, #)", 0, 58));
        for (int number = 0; number < 60; number++) {
            grown.answers("size(" + number + ")", number);
        }
        for (int number = 1; number < 60; number++) {
            grown.answers("get(" + number + ", " + (number - 1) + ")", number - 1).answers("get(59, " + (number - 1) + ")", number - 1)
                    .refuses(Story.MISSING, "get(" + number + ", " + number + ")");
        }
    }

    private static void lastingMaps() {
        Story grown = story("12 to 17").after("map()").after(Story.repeated("put(#, #, #)", 0, 39)).answers("without(40, 0)", 41).answers("put(41, 0, 1)", 42);
        for (int number = 0; number <= 40; number++) {
            grown.answers("size(" + number + ")", number).refuses(Story.MISSING, "get(" + number + ", " + number + ")");
        }
        for (int key = 0; key < 40; key++) {
            grown.answers("get(40, " + key + ")", key).answers("get(" + (key + 1) + ", " + key + ")", key);
        }
        grown.refuses(Story.MISSING, "get(41, 0)").answers("get(42, 0)", 1).answers("areSame(40, 42)", false).answers("size(41)", 39);
        // The codes of 0, 4 and 8 are 0, 148 and 41: they part at the level 1, and 8 already at the top.
        story("13, 14, 20").after("map()", "put(0, 0, 1)", "put(1, 4, 2)", "put(2, 8, 3)").answers("nodes(3)", 2).answers("shared(2, 3)", 1)
                .answers("without(3, 8)", 4).answers("shared(3, 4)", 1).answers("shared(2, 4)", 1).answers("areSame(2, 4)", true)
                .answers("get(3, 8)", 3).refuses(Story.MISSING, "get(2, 8)", "get(4, 8)");
    }

    private static void openedAndMadeLasting() {
        story("7 to 11").after(Story.grown(5)).answers("open(2)", 3).answers("setIn(3, 0, 9)", 2).answers("setIn(3, 3, 8)", 0).answers("setIn(3, 4, 7)", 1)
                .answers("setIn(3, 4, 6)", 0).answers("makeLasting(3)", 4).answers("isOpen(3)", false).answers("isOpen(4)", false).answers("get(4, 4)", 6)
                .answers("get(2, 4)", 5).answers("open(4)", 5).answers("setIn(5, 4, 1)", 2).answers("get(4, 4)", 6).answers("get(5, 4)", 1)
                .answers("append(4, 1)", 6).refuses(Story.UNSUPPORTED, "setIn(3, 0, 1)", "setIn(4, 0, 1)", "append(5, 1)");
    }

    private static void chunkByChunk() {
        Story read = story("23 to 28").after("range(1, 1, 24)", "over(0, 'a', 1)", "over(0, 'k', 2)", "over(1, 't', 24)");
        for (int place = 0; place < 24; place++) {
            read.answers("at(3, " + place + ")", place + 2).answers("chunks(3)", place + 1).answers("chunks(1)", place / 4 + 1)
                    .answers("chunks(0)", place / 4 + 1).answers("chunks(2)", 0);
        }
        read.answers("at(2, 11)", 24).answersEach(6, "chunks(2)", "chunks(1)", "chunks(0)").answers("realised(2)", 12).answers("realised(0)", 24)
                .answers("at(0, 0)", 1).answers("all(0)", 24).answers("chunks(0)", 6).answers("realised(0)", 24);
    }

    private static void oneMoment() {
        story("30 to 36").after("addReference(1, 0, 9)", "addReference(2, 0, 9)", "begin(0)", "begin(1)", "write(1, 0, 3)", "write(1, 1, 4)")
                .answers("commit(1)", 'c').answers("read(0, 0)", 1).answers("read(0, 1)", 2).answers("valueOf(0)", 3).answers("valueOf(1)", 4)
                .answers("begin(1)", 1).answers("read(1, 0)", 3).answers("read(1, 1)", 4).answers("read(0, 0)", 1);
        // With the first reference's own history used up, it goes on at a moment in which it sees both anew.
        story("30 to 38").after("addReference(1, 0, 9)", "addReference(2, 0, 9)", "begin(0)", "begin(1)", "write(1, 0, 3)", "write(1, 1, 4)", "commit(1)")
                .after("begin(1)", "write(1, 0, 5)").answers("commit(1)", 'c').answers("read(0, 1)", 2).answers("read(0, 0)", -10000)
                .answers("sentBack(0)", 1).answers("read(0, 1)", 4).answers("read(0, 0)", 5);
    }

    private static void wholeOrNotAtAll() {
        story("33, 35, 36").after("addReference(1, 0, 9)", "addReference(2, 0, 9)", "addReference(3, 0, 9)", "addAgent(0, 0, 9, 'c')", "begin(0)", "write(0, 0, 9)")
                .after("add(0, 1, 7)", "write(0, 2, 10)", "send(0, 0, 1)").answers("commit(0)", 'b').answers("valueOf(0)", 1).answers("valueOf(1)", 2)
                .answers("valueOf(2)", 3).answers("moment()", 0).answers("logged()", 0).refuses(Story.MISSING, "act(0)").after("begin(0)", "write(0, 0, 9)")
                .after("add(0, 1, 7)", "write(0, 2, 0)", "send(0, 0, 1)").answers("commit(0)", 'c').answers("valueOf(0)", 9).answers("valueOf(1)", 9)
                .answers("valueOf(2)", 0).answers("moment()", 1).answers("logged()", 3).answers("act(0)", 1);
    }

    private static void olderAheadOfYounger() {
        story("31, 33, 34, 36").after("addReference(1, 0, 9)", "begin(2)", "begin(1)", "begin(0)").after("write(0, 0, 2)").answers("write(1, 0, 3)", true)
                .answers("sentBack(0)", 1).answers("write(0, 0, 2)", false).answers("sentBack(0)", 2).answers("ensure(2, 0)", true).answers("sentBack(1)", 1)
                .answers("read(1, 0)", 1).answers("add(1, 0, 5)", true).answers("commit(1)", 's').answers("add(2, 0, 6)", true).answers("commit(2)", 'c')
                .answers("valueOf(0)", 7).answers("sentBack(2)", 0);
    }

    private static void agents() {
        story("45 to 47").after("addAgent(5, 0, 9, 'f')", "addAgent(0, 0, 9, 'c')").answers("send(-1, 0, 1)", 1).answers("send(-1, 0, 2)", 2)
                .answers("act(0)", 6).answers("act(0)", 8).refuses(Story.MISSING, "act(0)", "act(1)").after("begin(1)").answers("send(1, 0, 1)", 0)
                .answers("send(1, 1, 2)", 0).refuses(Story.MISSING, "act(0)", "act(1)").answers("commit(1)", 'c').answers("act(0)", 9).answers("act(1)", 2)
                .after("begin(1)").answers("send(1, 1, 2)", 0).answers("end(1)", 0).refuses(Story.MISSING, "act(1)");
    }

    private static void plainRows() {
        Story vectors = Story.term("Terms", "15, 16", SECOND).after(Story.grown(17)).answers("set(2, 16, -1)", 3).answers("cut(3)", 4).answers("open(4)", 5)
                .after("setIn(5, 0, 99)", "appendTo(5, 98)", "appendTo(5, 97)");
        int[] sizes = {0, 0, 17, 17, 16, 18};
        for (int number = 0; number < sizes.length; number++) {
            for (int place = 0; place < sizes[number]; place++) {
                int due = number == 3 && place == 16 ? -1 : number == 5 && place == 0 ? 99 : number == 5 && place > 15 ? 114 - place : place + 1;
                vectors.answers("get(" + number + ", " + place + ")", due).answers("getPlain(" + number + ", " + place + ")", due);
            }
            vectors.refuses(Story.MISSING, "get(" + number + ", " + sizes[number] + ")", "getPlain(" + number + ", " + sizes[number] + ")");
        }
        Story maps = Story.term("Terms", "15, 16", SECOND).after("map()").after(Story.repeated("put(#, #, #)", 0, 39)).after("without(40, 0)", "without(41, 39)", "put(42, 20, -20)");
        for (int key = 0; key < 40; key++) {
            int due = key == 20 ? -20 : key;
            if (key > 0 && key < 39) {
                maps.answers("get(43, " + key + ")", due).answers("getPlain(43, " + key + ")", due);
            }
            maps.answers("get(40, " + key + ")", key).answers("getPlain(40, " + key + ")", key);
        }
        maps.refuses(Story.MISSING, "get(43, 0)", "getPlain(43, 0)", "get(43, 39)", "getPlain(43, 39)");
    }

    private static void logOfCommits() {
        Story commits = Story.term("Terms", "39, 40", SECOND).after("addReference(9, -99, 99)", "addReference(-9, -99, 99)", "addReference(0, 0, 0)");
        int first = 9;
        int second = -9;
        for (int i = 1; i <= 30; i++) {
            commits.after("begin(0)", "add(0, 0, " + i % 7 + ")", "write(0, 1, " + (i - 15) + ")");
            commits.answers("valueByLog(0)", first).answers("valueByLog(1)", second);
            first += i % 7;
            second = i - 15;
            commits.answers("commit(0)", first > 99 ? 'b' : 'c').answers("valueOf(0)", first).answers("valueByLog(0)", first).answers("valueOf(1)", second)
                    .answers("valueByLog(1)", second).answers("valueByLog(2)", 0);
        }
    }
}
