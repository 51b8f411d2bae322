/** Promises 36 and 39 to 44, and what stands under Commits. */
final class CommitBoundaries {
    private static final String NO_TRANSACTION = "Throws `IllegalArgumentException` if there is no such transaction";
    private static final String NO_REFERENCE = "Throws `IndexOutOfBoundsException` if there is no such reference";
    private static final String NOT_OPEN = "Throws `IllegalStateException` if it is not open";
    private static final String ADDS = "When a transaction commits, each reference to which it adds gets the value that came last, plus what it "
            + "adds; but ahead of all this, by rising references and then by rising transactions, for each other open transaction that has "
            + "written or ensured such a reference, the younger one of both is sent back; if it is the one that commits, it does nothing more.";
    private static final String BOUNDS = "If a value would be out of its bounds, the transaction ends, and nothing of it is done.";
    private static final String OTHERWISE = "Otherwise, if it has written or added to some reference, also numbers that come to 0 together, the "
            + "moment increases by 1, these values come in it, and are logged by rising references, also those that are as before; then what "
            + "it sent goes to the agents, in its order; and it ends.";

    private CommitBoundaries() {
    }

    static void tell() {
        commit();
        commitRefuses();
        values();
        history();
        momentAndLog();
        logAt();
        adds();
        addsAgainstOthers();
        addsByRisingReferences();
        outOfBounds();
        otherwise();
        sentInOrder();
    }

    /** Three references with the value 5 from 0 to 9, and the open transactions 0, 1 and 2, of which 0 is the oldest. */
    private static final String[] BEGUN = {"addReference(5, 0, 9)", "addReference(5, 0, 9)", "addReference(5, 0, 9)", "begin(0)", "begin(1)", "begin(2)"};

    private static void commit() {
        Story.promise(36, "Lets a transaction commit.")
                .after(BEGUN).after("write(0, 0, 7)", "add(0, 1, -2)").answers("commit(0)", 'c').answers("valueOf(0)", 7).answers("valueOf(1)", 3)
                .answers("valueOf(2)", 5).answers("moment()", 1).answers("logged()", 2).refuses(Story.STATE, "commit(0)", "end(0)", "read(0, 0)")
                .answers("read(1, 0)", 5).answers("begin(0)", 1).answers("read(0, 0)", 7);
        String said = "Returns 'c' if it has committed, 's' if it is sent back, 'b' if it ended as a value would be out of its bounds.";
        Story.promise(36, said).after(BEGUN).answers("commit(0)", 'c').answers("commit(1)", 'c').answers("commit(2)", 'c').answers("moment()", 0);
        Story.promise(36, said).after(BEGUN).after("add(0, 0, 4)").answers("commit(0)", 'c').answers("valueOf(0)", 9).after("add(1, 0, 1)")
                .answers("commit(1)", 'b').answers("valueOf(0)", 9).refuses(Story.STATE, "commit(1)").after("write(2, 1, 0)").answers("commit(2)", 'c')
                .answers("valueOf(1)", 0);
        Story.promise(36, said).after(BEGUN).after("ensure(0, 0)", "add(1, 0, 1)").answers("commit(1)", 's').answers("sentBack(1)", 1)
                .answers("valueOf(0)", 5).answers("moment()", 0).answers("commit(1)", 'c').answers("moment()", 0).refuses(Story.STATE, "commit(1)");
    }

    private static void commitRefuses() {
        Story.promise(36, NO_TRANSACTION).after(BEGUN).after("add(0, 0, 1)", "add(2, 0, 1)")
                .refuses(Story.ARGUMENT, "commit(-1)", "commit(3)", "commit(MIN)", "commit(MAX)").answers("commit(0)", 'c').answers("commit(2)", 'c');
        Story.promise(36, NOT_OPEN).refuses(Story.STATE, "commit(0)", "commit(1)", "commit(2)").after("begin(1)").refuses(Story.STATE, "commit(0)", "commit(2)")
                .answers("commit(1)", 'c').refuses(Story.STATE, "commit(1)").after("begin(1)", "end(1)").refuses(Story.STATE, "commit(1)");
        Story.promise(36, NOT_OPEN).after("addReference(5, 0, 9)", "begin(0)", "write(0, 0, 10)").answers("commit(0)", 'b')
                .refuses(Story.STATE, "commit(0)", "end(0)", "write(0, 0, 1)", "add(0, 0, 1)", "ensure(0, 0)", "read(0, 0)");
        Story.listedFirst(36).refuses(Story.ARGUMENT, "commit(3)", "commit(-1)").refuses(Story.STATE, "commit(0)");
    }

    private static void values() {
        Story.promise(39, "Returns the value of a reference now.")
                .after(BEGUN).answers("valueOf(0)", 5).after("write(0, 0, 6)", "add(1, 1, 1)").answers("valueOf(0)", 5).answers("valueOf(1)", 5)
                .answers("commit(0)", 'c').answers("valueOf(0)", 6).answers("read(2, 0)", 5).answers("commit(1)", 'c').answers("valueOf(1)", 6);
        Story.promise(39, "Returns the value.").answers("addReference(-999, -999, 999)", 0).answers("valueOf(0)", -999)
                .answers("addReference(999, -999, 999)", 1).answers("valueOf(1)", 999);
        Story.promise(40, "Returns the same, found by doing all commits of the log one after the other.")
                .after(BEGUN).answers("valueByLog(0)", 5).after("write(0, 0, 6)", "write(0, 1, 7)", "commit(0)", "add(1, 0, 2)", "commit(1)")
                .answers("valueByLog(0)", 8).answers("valueByLog(1)", 7).answers("valueByLog(2)", 5).after("add(2, 0, 2)").answers("commit(2)", 'b')
                .answers("valueByLog(0)", 8).answers("valueOf(0)", 8);
        Story log = Story.promise(40, "Returns the value.").after("addReference(-9, -999, 999)", "addReference(9, -999, 999)").answers("valueByLog(1)", 9);
        for (int i = 1; i <= 60; i++) {
            log.after("begin(0)", "add(0, " + i % 2 + ", " + i + ")", "commit(0)").answers("valueByLog(" + i % 2 + ")", -9 + (i % 2) * 18 + sum(i))
                    .answers("valueOf(" + i % 2 + ")", -9 + (i % 2) * 18 + sum(i));
        }
        for (int promise = 39; promise <= 41; promise++) {
            String name = promise == 39 ? "valueOf" : promise == 40 ? "valueByLog" : "history";
            int due = promise == 41 ? 1 : 4;
            Story.promise(promise, NO_REFERENCE).refuses(Story.INDEX, name + "(0)").after("addReference(4, 0, 9)")
                    .refuses(Story.INDEX, name + "(1)", name + "(-1)", name + "(MAX)", name + "(MIN)").answers(name + "(0)", due)
                    .after(Story.repeated("addReference(4, 0, #)", 5, 9)).answers(name + "(5)", due).refuses(Story.INDEX, name + "(6)");
        }
    }

    /** Every second number from the last one downwards. */
    private static int sum(int last) {
        int sum = 0;
        for (int i = last; i > 0; i -= 2) {
            sum += i;
        }
        return sum;
    }

    private static void history() {
        Story.promise(41, "Returns how many values the history of a reference has.")
                .after("addReference(5, 0, 99)", "addReference(5, 0, 99)").answers("history(0)", 1).after("begin(0)", "write(0, 0, 5)").answers("history(0)", 1)
                .answers("commit(0)", 'c').answers("history(0)", 2).answers("history(1)", 1).after("begin(0)", "write(0, 0, 6)", "commit(0)")
                .answers("history(0)", 2);
        Story numbers = Story.promise(41, "Returns their number.").after("addReference(5, 0, 99)");
        for (int limit = 2; limit <= 9; limit++) {
            numbers.after("begin(1)");
            for (int i = 0; i < Math.min(limit, 8); i++) {
                numbers.after("begin(0)", "write(0, 0, " + i + ")", "commit(0)");
            }
            numbers.answers("history(0)", Math.min(limit, 8)).answers("read(1, 0)", -10000).answers("history(0)", Math.min(limit, 8)).after("end(1)");
        }
    }

    private static void momentAndLog() {
        Story.promise(42, "Returns the moment.")
                .answers("moment()", 0).after(BEGUN).answers("moment()", 0).after("write(0, 0, 1)", "write(0, 1, 1)").answers("moment()", 0)
                .answers("commit(0)", 'c').answers("moment()", 1).after("add(1, 2, 0)").answers("commit(1)", 'c').answers("moment()", 2)
                .after("add(2, 2, 5)").answers("commit(2)", 'b').answers("moment()", 2).after("begin(0)", "ensure(0, 0)").answers("commit(0)", 'c')
                .answers("moment()", 2).after("begin(0)", "write(0, 0, 3)", "end(0)").answers("moment()", 2);
        Story.promise(43, "Returns the number of entries of the log.")
                .answers("logged()", 0).after(BEGUN).after("write(0, 0, 5)", "add(0, 2, 0)", "ensure(0, 1)").answers("logged()", 0)
                .answers("commit(0)", 'c').answers("logged()", 2).after("write(1, 1, 10)").answers("commit(1)", 'b').answers("logged()", 2)
                .answers("commit(2)", 'c').answers("logged()", 2);
        Story all = Story.promise(43, "Returns their number.").after(Story.repeated("addReference(#, 0, 9)", 0, 5)).after("begin(1)")
                .after(Story.repeated("add(1, #, 1)", 0, 5)).answers("commit(1)", 'c').answers("logged()", 6);
        for (int i = 0; i < 6; i++) {
            all.answers("logAt(" + i + ", 0)", 1).answers("logAt(" + i + ", 1)", i).answers("logAt(" + i + ", 2)", i).answers("logAt(" + i + ", 3)", i + 1);
        }
        all.refuses(Story.INDEX, "logAt(6, 0)");
    }

    private static void logAt() {
        String[] two = {"addReference(5, -9, 9)", "addReference(-6, -9, 9)", "begin(0)", "write(0, 1, -7)", "write(0, 0, 4)", "commit(0)", "begin(0)",
            "add(0, 1, 3)", "commit(0)"};
        Story.promise(44, "Returns what is logged in an entry.").after(two).answers("logged()", 3)
                .answers("logAt(0, 0)", 1).answers("logAt(0, 1)", 0).answers("logAt(0, 2)", 5).answers("logAt(0, 3)", 4)
                .answers("logAt(1, 0)", 1).answers("logAt(1, 1)", 1).answers("logAt(1, 2)", -6).answers("logAt(1, 3)", -7)
                .answers("logAt(2, 0)", 2).answers("logAt(2, 1)", 1).answers("logAt(2, 2)", -7).answers("logAt(2, 3)", -4);
        Story.promise(44, "- `entry`: the entry, from 0").after(two).answers("logAt(0, 3)", 4).refuses(Story.INDEX, "logAt(-1, 3)")
                .answers("logAt(2, 3)", -4).refuses(Story.INDEX, "logAt(3, 3)");
        Story.promise(44, "- `what`: 0 for the moment, 1 for the reference, 2 for the value before, 3 for the value").after(two)
                .refuses(Story.ARGUMENT, "logAt(1, -1)").answers("logAt(1, 0)", 1).answers("logAt(1, 1)", 1).answers("logAt(1, 2)", -6)
                .answers("logAt(1, 3)", -7).refuses(Story.ARGUMENT, "logAt(1, 4)");
        Story.promise(44, "Returns what is asked.").after(two).after("begin(0)", "write(0, 0, 4)", "commit(0)")
                .answers("logAt(3, 0)", 3).answers("logAt(3, 1)", 0).answers("logAt(3, 2)", 4).answers("logAt(3, 3)", 4);
        Story.promise(44, "Throws `IndexOutOfBoundsException` if there is no such entry")
                .refuses(Story.INDEX, "logAt(0, 0)").after("addReference(5, 0, 9)", "begin(0)", "write(0, 0, 1)").refuses(Story.INDEX, "logAt(0, 0)")
                .after("commit(0)").answers("logAt(0, 0)", 1)
                .refuses(Story.INDEX, "logAt(1, 0)", "logAt(-1, 0)", "logAt(MAX, 3)", "logAt(MIN, 3)");
        Story.promise(44, "Throws `IllegalArgumentException` if what is asked is none of these").after(two)
                .refuses(Story.ARGUMENT, "logAt(0, 4)", "logAt(0, -1)", "logAt(2, MAX)", "logAt(2, MIN)").answers("logAt(0, 3)", 4).answers("logAt(0, 0)", 1);
        Story.listedFirst(44).refuses(Story.INDEX, "logAt(0, 4)", "logAt(-1, -1)").after(two).refuses(Story.INDEX, "logAt(3, 4)", "logAt(-1, 4)", "logAt(3, -1)")
                .refuses(Story.ARGUMENT, "logAt(2, 4)");
    }

    private static void adds() {
        Story.term("Commits", "35, 36", ADDS)
                .after(BEGUN).after("add(0, 0, 1)", "add(1, 0, 2)", "add(2, 0, -7)").answers("commit(2)", 'b').answers("commit(1)", 'c')
                .answers("valueOf(0)", 7).answers("commit(0)", 'c').answers("valueOf(0)", 8).answers("moment()", 2)
                .answers("logAt(1, 2)", 7).answers("logAt(1, 3)", 8);
        Story.term("Commits", "35, 36", ADDS)
                .after(BEGUN).after("add(1, 0, 4)", "write(0, 0, 2)").answers("commit(0)", 'c').answers("commit(1)", 'c').answers("valueOf(0)", 6);
    }

    private static void addsAgainstOthers() {
        for (String held : new String[] {"write(T, 0, 1)", "ensure(T, 0)", "add(T, 0, 1)", "read(T, 0)"}) {
            boolean fights = held.startsWith("write") || held.startsWith("ensure");
            Story.term("Commits", "36", ADDS)
                    .after(BEGUN).after(held.replace("T", "1"), "add(0, 0, 1)").answers("commit(0)", 'c').answers("sentBack(1)", fights ? 1 : 0)
                    .answers("sentBack(0)", 0).answers("valueOf(0)", 6).refuses(Story.STATE, "commit(0)");
            Story.term("Commits", "36", ADDS)
                    .after(BEGUN).after(held.replace("T", "0"), "add(1, 0, 1)", "write(1, 1, 7)").answers("commit(1)", fights ? 's' : 'c')
                    .answers("sentBack(1)", fights ? 1 : 0).answers("sentBack(0)", 0).answers("valueOf(0)", fights ? 5 : 6)
                    .answers("valueOf(1)", fights ? 5 : 7).answers("moment()", fights ? 0 : 1).answers("logged()", fights ? 0 : 2);
            Story.term("Commits", "36", ADDS)
                    .after(BEGUN).after(held.replace("T", "0"), held.replace("T", "0").replace(", 0", ", 1"), "add(1, 2, 1)").answers("commit(1)", 'c')
                    .answers("sentBack(1)", 0).answers("sentBack(0)", 0);
        }
        Story.term("Commits", "36", ADDS)
                .after(BEGUN).after("ensure(0, 0)", "end(0)", "add(1, 0, 1)").answers("commit(1)", 'c').answers("valueOf(0)", 6);
        Story.term("Commits", "36", ADDS)
                .after(BEGUN).after("ensure(1, 0)", "add(0, 0, 1)").answers("commit(0)", 'c').answers("sentBack(1)", 1).answers("read(1, 0)", 5)
                .answers("ensure(1, 0)", false).answers("read(1, 0)", 6);
        Story.term("Commits", "36", ADDS)
                .after(BEGUN).after("write(0, 1, 1)", "ensure(0, 1)", "add(0, 0, 1)").answers("commit(0)", 'c').answers("sentBack(0)", 0)
                .answers("valueOf(1)", 1).answers("valueOf(0)", 6);
        Story.term("Commits", "36", ADDS)
                .after(BEGUN).after("ensure(0, 0)", "add(0, 0, 1)").answers("commit(0)", 'c').answers("valueOf(0)", 6).answers("sentBack(0)", 0);
    }

    /** 1 commits and adds to the references 0 and 2; what 0 and 2 hold tells who is sent back, and when it ends. */
    private static void addsByRisingReferences() {
        Story.term("Commits", "36", ADDS)
                .after(BEGUN).after("ensure(2, 0)", "ensure(0, 2)", "add(1, 0, 1)", "add(1, 2, 1)").answers("commit(1)", 's').answers("sentBack(2)", 1)
                .answers("sentBack(1)", 1).answers("sentBack(0)", 0).answers("valueOf(0)", 5);
        Story.term("Commits", "36", ADDS)
                .after(BEGUN).after("ensure(0, 0)", "ensure(2, 2)", "add(1, 2, 1)", "add(1, 0, 1)").answers("commit(1)", 's').answers("sentBack(2)", 0)
                .answers("sentBack(1)", 1).answers("sentBack(0)", 0);
        Story.term("Commits", "36", ADDS)
                .after(BEGUN).after("ensure(0, 0)", "ensure(2, 0)", "add(1, 0, 1)").answers("commit(1)", 's').answers("sentBack(2)", 0)
                .answers("sentBack(1)", 1).answers("sentBack(0)", 0);
        Story.term("Commits", "36", ADDS)
                .after(BEGUN).after("end(0)", "begin(0)", "ensure(0, 0)", "ensure(1, 0)", "add(2, 0, 1)").answers("commit(2)", 's').answers("sentBack(0)", 1)
                .answers("sentBack(2)", 1).answers("sentBack(1)", 0);
        Story.term("Commits", "36", ADDS)
                .after(BEGUN).after("ensure(1, 0)", "ensure(1, 2)", "ensure(2, 2)", "add(0, 0, 1)", "add(0, 2, 1)").answers("commit(0)", 'c')
                .answers("sentBack(1)", 1).answers("sentBack(2)", 1).answers("valueOf(2)", 6);
    }

    private static void outOfBounds() {
        int[][] bounds = {{5, 0, 9}, {0, 0, 9}, {9, 0, 9}, {-999, -999, 999}, {999, -999, 999}, {7, 7, 7}};
        for (int[] one : bounds) {
            String reference = "addReference(" + one[0] + ", " + one[1] + ", " + one[2] + ")";
            for (int target : new int[] {one[1] - 1, one[1], one[2], one[2] + 1}) {
                boolean within = target >= one[1] && target <= one[2];
                int number = target - one[0];
                if (Math.abs(number) <= 99) {
                    Story.term("Commits", "36", BOUNDS).after(reference, "begin(0)", "add(0, 0, " + number + ")").answers("commit(0)", within ? 'c' : 'b')
                            .answers("valueOf(0)", within ? target : one[0]).answers("moment()", within ? 1 : 0).answers("history(0)", within ? 2 : 1)
                            .answers("logged()", within ? 1 : 0);
                }
                if (Math.abs(target) <= 999) {
                    Story.term("Commits", "36", BOUNDS).after(reference, "begin(0)", "write(0, 0, " + target + ")").answers("commit(0)", within ? 'c' : 'b')
                            .answers("valueOf(0)", within ? target : one[0]).answers("moment()", within ? 1 : 0).answers("history(0)", within ? 2 : 1)
                            .answers("logged()", within ? 1 : 0);
                }
            }
        }
        Story.term("Commits", "36, 46", BOUNDS)
                .after(BEGUN).after("addAgent(0, -9, 9, 'c')", "write(0, 0, 6)", "add(0, 1, 1)", "add(0, 2, 5)", "send(0, 0, 1)", "ensure(1, 2)",
                        "write(1, 1, 7)").answers("commit(0)", 'b').answersEach(5, "valueOf(0)", "valueOf(1)", "valueOf(2)").answers("moment()", 0)
                .answers("logged()", 0).answers("sentBack(1)", 1).refuses(Story.MISSING, "act(0)").refuses(Story.STATE, "end(0)", "commit(0)")
                .answers("read(1, 1)", 5).answers("begin(0)", 0).answers("read(0, 0)", 5).answers("sentBack(0)", 0);
        Story.term("Commits", "36", BOUNDS)
                .after(BEGUN).after("write(0, 2, 10)", "write(0, 0, 6)").answers("commit(0)", 'b').answers("valueOf(0)", 5).answers("write(1, 2, 1)", true)
                .answers("write(1, 0, 1)", true).answers("commit(1)", 'c').answers("valueOf(2)", 1);
        Story.term("Commits", "36", BOUNDS)
                .after(BEGUN).after("add(0, 0, 3)", "add(1, 0, 3)").answers("commit(0)", 'c').answers("read(1, 0)", 8).answers("commit(1)", 'b')
                .answers("valueOf(0)", 8);
        Story.term("Commits", "36", BOUNDS)
                .after(BEGUN).after("add(0, 0, 50)", "add(0, 0, -48)").answers("commit(0)", 'c').answers("valueOf(0)", 7);
    }

    private static void otherwise() {
        Story.term("Commits", "36, 42 to 44", OTHERWISE)
                .after(BEGUN).after("add(0, 2, 3)", "add(0, 2, -3)", "write(0, 1, 5)", "ensure(0, 0)").answers("commit(0)", 'c').answers("moment()", 1)
                .answers("logged()", 2).answers("logAt(0, 1)", 1).answers("logAt(0, 2)", 5).answers("logAt(0, 3)", 5).answers("logAt(1, 1)", 2)
                .answers("logAt(1, 2)", 5).answers("logAt(1, 3)", 5).answersEach(1, "logAt(0, 0)", "logAt(1, 0)").answers("history(0)", 1)
                .answers("history(1)", 2).answers("history(2)", 2).answers("write(1, 1, 6)", false).answers("write(2, 0, 6)", true)
                .refuses(Story.STATE, "end(0)");
        Story.term("Commits", "36, 42, 43", OTHERWISE)
                .after(BEGUN).after("add(0, 0, 0)").answers("commit(0)", 'c').answers("moment()", 1).answers("logged()", 1).answers("ensure(1, 0)", false);
        Story.term("Commits", "36, 42, 43", OTHERWISE)
                .after(BEGUN).after("read(0, 0)", "ensure(0, 0)").answers("commit(0)", 'c').answers("moment()", 0).answers("logged()", 0)
                .answers("write(1, 0, 6)", true).refuses(Story.STATE, "commit(0)").answers("begin(0)", 0);
        Story.term("Commits", "36, 42, 43", OTHERWISE)
                .after(BEGUN).after("addAgent(0, -99, 99, 'c')", "send(0, 0, 7)").answers("commit(0)", 'c').answers("moment()", 0).answers("logged()", 0)
                .answers("act(0)", 7);
        Story.term("Commits", "36, 42 to 44", OTHERWISE)
                .after(BEGUN).after("write(0, 2, 1)", "write(0, 0, 2)", "add(0, 1, 3)").answers("commit(0)", 'c').answers("moment()", 1)
                .answers("logAt(0, 1)", 0).answers("logAt(1, 1)", 1).answers("logAt(2, 1)", 2).answers("logAt(0, 3)", 2).answers("logAt(1, 3)", 8)
                .answers("logAt(2, 3)", 1).answers("begin(0)", 1).answers("read(0, 2)", 1).answers("read(1, 2)", 5);
        Story.term("Commits", "32, 36", OTHERWISE)
                .after(BEGUN).after("write(0, 0, 6)", "commit(0)", "begin(0)", "write(0, 1, 7)", "commit(0)").answers("moment()", 2)
                .answers("read(1, 0)", 5).answers("read(1, 1)", 5).answers("begin(0)", 2).answers("read(0, 0)", 6).answers("read(0, 1)", 7);
    }

    private static void sentInOrder() {
        Story story = Story.term("Commits", "36, 46, 47", OTHERWISE)
                .after(BEGUN).after("addAgent(0, -999, 999, 'c')", "addAgent(0, -999, 999, 'c')").answers("send(-1, 0, 1)", 1)
                .answers("send(0, 0, 10)", 1).answers("send(0, 1, 20)", 0).answers("send(0, 0, -30)", 1).answers("send(-1, 0, 2)", 2)
                .answers("send(0, 1, -40)", 0).answers("commit(0)", 'c').answers("send(-1, 0, 5)", 5);
        story.answers("act(0)", 1).answers("act(0)", 3).answers("act(0)", 13).answers("act(0)", -17).answers("act(0)", -12).answers("act(1)", 20)
                .answers("act(1)", -20).refuses(Story.MISSING, "act(0)", "act(1)");
    }
}
