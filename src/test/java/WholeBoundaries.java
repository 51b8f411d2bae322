/** What stands under Exceptions, with much in the object, and how long an object is used. */
final class WholeBoundaries {
    private WholeBoundaries() {
    }

    static void tell() {
        refusedWithMuchInIt();
        lastCalls();
    }

    /** Something of each kind: values of all sorts, chunks in part, open transactions that hold something, agents with rows. */
    private static Story much() {
        return Story.changesNothing("1 to 50")
                .after(Story.grown(6)).after("open(2)", "setIn(3, 5, 9)", "append(2, 7)", "cut(4)", "map()", "put(6, 0, 1)", "put(7, 118, 2)", "put(8, 4, 3)")
                .after("range(-4, 1, 10)", "over(0, 'd', 12)", "over(0, 'a', 1)", "over(1, 't', 3)", "over(0, 'k', 3)", "at(1, 0)", "at(2, 5)", "at(3, 1)")
                .after("addReference(5, 0, 9)", "addReference(6, -99, 99)", "addReference(7, -999, 999)", "addAgent(3, 0, 9, 'f')", "addAgent(4, -9, 9, 'c')")
                .after("begin(2)", "write(2, 0, 6)", "add(2, 1, 4)", "commit(2)", "begin(1)", "begin(0)", "write(1, 0, 7)", "ensure(1, 1)", "add(0, 2, 5)")
                .after("ensure(0, 1)", "send(1, 0, 3)", "send(0, 1, 4)", "send(-1, 0, 9)", "send(-1, 0, 1)", "send(-1, 1, 1)", "act(0)");
    }

    private static void refusedWithMuchInIt() {
        much().refuses(Story.INDEX, "append(10, 0)", "set(10, 0, 0)", "cut(10)", "depth(10)", "open(10)", "appendTo(10, 0)", "setIn(10, 0, 0)",
                "makeLasting(10)", "isOpen(10)", "put(10, 0, 0)", "without(10, 0)", "get(10, 0)", "getPlain(10, 0)", "levelOf(10, 0)", "size(10)",
                "nodes(10)", "shared(10, 0)", "shared(0, 10)", "areSame(10, 0)", "areSame(0, 10)");
        much().refuses(Story.INDEX, "over(5, 'a', 0)", "at(5, 0)", "all(5)", "realised(5)", "chunks(5)", "collect(5)", "read(0, 3)", "write(0, 3, 0)",
                "ensure(0, 3)", "add(0, 3, 0)", "valueOf(3)", "valueByLog(3)", "history(3)", "logAt(2, 0)", "send(-1, 2, 0)", "send(0, 2, 0)", "act(2)",
                "beginAnew(2, 3)", "errors(2)");
        much().refuses(Story.ARGUMENT, "append(2, 1000)", "set(2, 0, 1000)", "appendTo(3, 1000)", "setIn(3, 0, 1000)", "put(9, 1000, 0)", "put(9, 0, 1000)",
                "range(100, 0, 0)", "over(0, 'x', 0)", "over(0, 'k', 0)", "addReference(1, 2, 3)", "begin(3)", "read(3, 0)", "write(3, 0, 0)", "ensure(3, 0)",
                "add(3, 0, 0)", "commit(3)", "end(3)", "sentBack(3)", "logAt(0, 4)", "addAgent(1, 2, 3, 'f')", "addAgent(2, 2, 3, 'x')", "send(3, 0, 0)",
                "send(0, 0, 100)", "beginAnew(0, 10)");
        much().refuses(Story.UNSUPPORTED, "append(6, 0)", "append(3, 0)", "append(1, 0)", "set(9, 0, 0)", "cut(3)", "depth(9)", "open(3)", "appendTo(2, 0)",
                "setIn(2, 0, 0)", "makeLasting(2)", "put(2, 0, 0)", "without(3, 0)", "levelOf(2, 0)", "at(1, 4)", "at(1, 99)", "all(1)", "collect(1)",
                "write(0, 2, 1)", "write(0, 0, 1000)", "write(1, 2, -1000)", "add(0, 2, 100)", "add(1, 0, -100)");
        much().refuses(Story.MISSING, "set(2, 6, 0)", "set(2, -1, 0)", "setIn(3, 6, 0)", "cut(0)", "without(9, 361)", "get(9, 361)", "getPlain(9, 361)", "get(1, 0)",
                "levelOf(9, 361)", "areSame(1, 2)", "at(0, 10)", "at(2, -1)", "at(3, 3)", "at(4, 4)");
        much().refuses(Story.STATE, "begin(0)", "begin(1)", "read(2, 0)", "write(2, 0, 0)", "ensure(2, 0)", "add(2, 0, 0)", "commit(2)", "end(2)", "send(2, 0, 0)",
                "act(0)", "beginAnew(1, 0)");
        much().after(Story.repeated("vector()", 10, 59)).after(Story.repeated("range(#, 1, 1)", 5, 11)).after(Story.repeated("addReference(#, 0, 9)", 3, 5))
                .after(Story.repeated("addAgent(#, 0, 9, 'c')", 2, 3))
                .refuses(Story.STATE, "vector()", "append(2, 0)", "set(2, 0, 0)", "set(2, 0, 1)", "cut(2)", "open(2)", "makeLasting(3)", "map()", "put(9, 0, 0)",
                        "put(9, 0, 1)", "without(9, 0)", "range(0, 0, 0)", "over(0, 'a', 0)", "collect(0)", "collect(2)", "addReference(0, 0, 9)",
                        "addAgent(0, 0, 9, 'f')");
    }

    private static void lastCalls() {
        String said = "An object is used for at most 512 calls after it has been made; what later calls answer is free.";
        Story.use(said).after("vector()", "open(0)").after(Story.repeated("appendTo(1, #)", 1, 64)).after(Story.repeated("setIn(1, 63, #)", 1, 444)).left(2)
                .answers("setIn(1, 63, 999)", 0).answers("get(1, 63)", 999).left(0);
        Story.use(said).after("vector()", "open(0)").after(Story.repeated("appendTo(1, #)", 1, 64)).after(Story.repeated("setIn(1, 63, #)", 1, 443)).left(3)
                .refuses(Story.MISSING, "setIn(1, 64, 1)").answers("getPlain(1, 63)", 443).refuses(Story.UNSUPPORTED, "appendTo(1, 1)").left(0);
        Story moments = Story.use(said).after("addReference(-99, -999, 999)");
        for (int i = 1; i <= 169; i++) {
            moments.after("begin(0)", "add(0, 0, 1)", "commit(0)");
        }
        moments.answers("moment()", 169).answers("valueByLog(0)", 70).answers("logAt(168, 3)", 70).refuses(Story.INDEX, "logAt(169, 0)").left(0);
        Story entries = Story.use(said).after(Story.repeated("addReference(#, 0, 99)", 0, 5));
        for (int i = 1; i <= 62; i++) {
            entries.after("begin(0)").after(Story.repeated("add(0, #, 1)", 0, 5)).after("commit(0)");
        }
        entries.answers("logged()", 372).answers("logAt(371, 0)", 62).answers("logAt(371, 1)", 5).answers("logAt(371, 3)", 67).answers("valueByLog(0)", 62)
                .answers("valueByLog(5)", 67).refuses(Story.INDEX, "logAt(372, 0)").answers("history(5)", 2).answers("moment()", 62).left(1);
        Story begins = Story.use(said).after("addReference(0, 0, 9)", "begin(2)");
        for (int i = 0; i < 252; i++) {
            begins.after("begin(" + i % 2 + ")", "end(" + i % 2 + ")");
        }
        begins.after("begin(1)").answers("write(1, 0, 1)", true).answers("write(2, 0, 2)", true).answers("sentBack(1)", 1).answers("sentBack(2)", 0).left(1);
        Story errors = Story.use(said).after("addAgent(0, 0, 0, 'c')");
        for (int i = 0; i < 255; i++) {
            errors.after("send(-1, 0, 1)", "act(0)");
        }
        errors.answers("errors(0)", 255).left(0);
        Story backs = Story.use(said).after("addReference(0, 0, 9)", "begin(0)", "begin(1)", "write(0, 0, 1)");
        backs.after(Story.repeated("write(1, 0, 1)", 1, 507)).answers("sentBack(1)", 507).left(0);
    }
}
