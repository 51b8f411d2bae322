/** Promises 30 to 35, 37 and 38, and what stands under References and Transactions. */
final class TransactionBoundaries {
    private static final String NO_TRANSACTION = "Throws `IllegalArgumentException` if there is no such transaction";
    private static final String NO_REFERENCE = "Throws `IndexOutOfBoundsException` if there is no such reference";
    private static final String NOT_OPEN = "Throws `IllegalStateException` if it is not open";
    private static final String BACK = "It is sent back if it cannot go on: all that it wrote, ensured, added and sent is gone, its point is "
            + "the present moment then, and it stays as old as it is.";
    private static final String READS = "It reads its own value of a reference, if it has one; otherwise, the value that came last, but not "
            + "behind its point, plus all that it adds.";
    private static final String AGAINST = "If, behind that, another open transaction has written the reference, or, for writing, has ensured "
            + "it, the younger one of both is sent back; if that is the other one, the first one goes on, and looks for the next such "
            + "transaction, by rising numbers.";
    private static final String POINT = "To write or to ensure a reference, this must have no value that came behind the point of the "
            + "transaction, or else it is sent back; to add to it, this does not matter.";

    private TransactionBoundaries() {
    }

    static void tell() {
        addReference();
        addReferenceRefuses();
        begin();
        read();
        write();
        writeRefuses();
        ensure();
        add();
        addRefuses();
        noTransactionOrReference();
        listedFirst();
        endAndSentBack();
        references();
        histories();
        open();
        sentBackForgets();
        staysAsOld();
        reads();
        readsBehindHistories();
        points();
        againstOthers();
        againstTwoOthers();
        ensuredStays();
    }

    /** Three references with the value 5 from -999 to 999, and the open transactions 0, 1 and 2, of which 0 is the oldest. */
    private static final String[] BEGUN = {"addReference(5, -999, 999)", "addReference(5, -999, 999)", "addReference(5, -999, 999)",
        "begin(0)", "begin(1)", "begin(2)"};

    /** The reference 0 gets the values from the first to the last one, each in a moment of its own, by the transaction 2. */
    private static String[] committed(int first, int last) {
        String[] calls = new String[3 * Math.max(last - first + 1, 0)];
        for (int i = 0; i < calls.length; i += 3) {
            calls[i] = "begin(2)";
            calls[i + 1] = "write(2, 0, " + (first + i / 3) + ")";
            calls[i + 2] = "commit(2)";
        }
        return calls;
    }

    private static void addReference() {
        Story.promise(30, "Adds a reference, whose value came in the moment 0.")
                .answers("addReference(5, 0, 999)", 0).answers("valueOf(0)", 5).answers("valueByLog(0)", 5).answers("history(0)", 1)
                .answers("begin(0)", 0).answers("read(0, 0)", 5).answers("moment()", 0).after(committed(6, 6)).answers("moment()", 1)
                .answers("addReference(8, 0, 9)", 1).answers("read(0, 1)", 8).answers("write(0, 1, 9)", true).answers("ensure(0, 1)", true)
                .answers("sentBack(0)", 0).answers("history(1)", 1).answers("logged()", 1);
        Story numbers = Story.promise(30, "Returns its number.");
        for (int i = 0; i < 6; i++) {
            numbers.answers("addReference(" + i + ", 0, 9)", i).answers("valueOf(" + i + ")", i);
        }
    }

    private static void addReferenceRefuses() {
        Story.promise(30, "Throws `IllegalArgumentException` if the bounds are not from -999 to 999, or the value is not within them")
                .answers("addReference(-999, -999, 999)", 0).answers("addReference(999, -999, 999)", 1).answers("addReference(-999, -999, -999)", 2)
                .answers("addReference(999, 999, 999)", 3)
                .refuses(Story.ARGUMENT, "addReference(0, -1000, 0)", "addReference(0, 0, 1000)", "addReference(-1000, -1000, 0)",
                        "addReference(1000, 0, 1000)", "addReference(0, MIN, MAX)", "addReference(0, -999, 1000)", "addReference(0, -1000, 999)",
                        "addReference(1, 2, 5)", "addReference(6, 2, 5)", "addReference(1000, -999, 999)", "addReference(-1000, -999, 999)",
                        "addReference(3, 4, 2)", "addReference(4, 4, 2)", "addReference(2, 4, 2)", "addReference(MAX, 0, 9)",
                        "addReference(MIN, 0, 9)", "addReference(1000, 1000, 1000)", "addReference(-1000, -1000, -1000)")
                .answers("addReference(2, 2, 5)", 4).answers("addReference(5, 2, 5)", 5).answers("valueOf(4)", 2).answers("valueOf(5)", 5);
        Story.promise(30, "Throws `IllegalStateException` if there are 6 references")
                .after(Story.repeated("addReference(#, 0, 9)", 0, 4)).answers("addReference(5, 0, 9)", 5)
                .refuses(Story.STATE, "addReference(6, 0, 9)", "addReference(0, 0, 0)").refuses(Story.INDEX, "valueOf(6)");
        Story.listedFirst(30)
                .after(Story.repeated("addReference(#, 0, 9)", 0, 5))
                .refuses(Story.ARGUMENT, "addReference(10, 0, 9)", "addReference(-1, 0, 9)", "addReference(0, 0, 1000)", "addReference(0, -1000, 0)")
                .refuses(Story.STATE, "addReference(9, 0, 9)");
    }

    private static void begin() {
        Story.promise(31, "Begins a transaction.")
                .after("addReference(5, 0, 9)").refuses(Story.STATE, "read(0, 0)", "end(0)").answers("begin(0)", 0).answers("read(0, 0)", 5)
                .answers("end(0)", 0).refuses(Story.STATE, "read(0, 0)").answers("begin(0)", 0).answers("read(0, 0)", 5);
        Story.promise(31, "Returns its point.")
                .after("addReference(5, 0, 999)").answers("begin(0)", 0).after(committed(6, 7)).answers("begin(1)", 2).answers("begin(2)", 2)
                .after("write(1, 0, 8)").answers("commit(1)", 'c').answers("begin(1)", 3).answers("end(1)", 0).answers("begin(1)", 3);
        Story.promise(31, NO_TRANSACTION)
                .refuses(Story.ARGUMENT, "begin(-1)", "begin(3)", "begin(MIN)", "begin(MAX)").answersEach(0, "begin(0)", "begin(1)", "begin(2)");
        Story.promise(31, "Throws `IllegalStateException` if it is open")
                .after("addReference(5, 0, 9)").answers("begin(1)", 0).refuses(Story.STATE, "begin(1)", "begin(1)").after("write(1, 0, 6)")
                .refuses(Story.STATE, "begin(1)").answers("read(1, 0)", 6).answers("begin(0)", 0).answers("commit(1)", 'c').answers("begin(1)", 1)
                .refuses(Story.STATE, "begin(1)", "begin(0)").answers("write(0, 0, 1)", false).refuses(Story.STATE, "begin(0)").answers("end(0)", 1)
                .answers("begin(0)", 1).answers("write(0, 0, 10)", true).answers("commit(0)", 'b').answers("begin(0)", 1);
    }

    private static void read() {
        Story.promise(32, "Lets a transaction read a reference.")
                .after(BEGUN).answers("read(0, 0)", 5).answers("read(2, 2)", 5).after("write(0, 0, -999)").answers("read(0, 0)", -999)
                .answers("read(1, 0)", 5).after("add(1, 1, -99)").answers("read(1, 1)", -94).answers("read(0, 1)", 5).answers("valueOf(0)", 5);
        Story.promise(32, "Returns the value, or -10000 if it is sent back.")
                .after("addReference(5, 0, 999)", "begin(0)").after(committed(6, 6)).answers("read(0, 0)", 5).answers("sentBack(0)", 0)
                .after(committed(7, 7)).answers("read(0, 0)", -10000).answers("sentBack(0)", 1).answers("read(0, 0)", 7);
        Story.promise(32, NO_TRANSACTION)
                .after(BEGUN).refuses(Story.ARGUMENT, "read(-1, 0)", "read(3, 0)", "read(MIN, 0)", "read(MAX, 0)")
                .answersEach(5, "read(0, 0)", "read(1, 0)", "read(2, 0)");
        Story.promise(32, NO_REFERENCE)
                .refuses(Story.INDEX, "read(0, 0)").after(BEGUN)
                .refuses(Story.INDEX, "read(0, -1)", "read(0, 3)", "read(0, 6)", "read(0, MIN)", "read(0, MAX)").answers("read(0, 2)", 5);
        Story.promise(32, NOT_OPEN)
                .after("addReference(5, 0, 9)").refuses(Story.STATE, "read(0, 0)", "read(1, 0)", "read(2, 0)").after("begin(1)")
                .answers("read(1, 0)", 5).refuses(Story.STATE, "read(0, 0)", "read(2, 0)").after("commit(1)").refuses(Story.STATE, "read(1, 0)");
    }

    private static void write() {
        Story.promise(33, "Lets a transaction write a reference.")
                .after(BEGUN).answers("write(0, 0, 7)", true).answers("read(0, 0)", 7).answers("write(0, 0, 8)", true).answers("read(0, 0)", 8)
                .answers("valueOf(0)", 5).answers("commit(0)", 'c').answers("valueOf(0)", 8).answers("history(0)", 2).answers("logged()", 1);
        Story.promise(33, "- `value`: the value, -999 to 999")
                .after(BEGUN).answers("write(0, 0, -999)", true).answers("write(0, 1, 999)", true)
                .refuses(Story.UNSUPPORTED, "write(0, 2, -1000)", "write(0, 2, 1000)", "write(0, 0, 1000)", "write(0, 1, -1000)")
                .answers("read(0, 0)", -999).answers("read(0, 1)", 999).answers("read(0, 2)", 5).answers("commit(0)", 'c').answers("valueOf(0)", -999);
        Story.promise(33, "Returns false if it is sent back.")
                .after(BEGUN).answers("write(0, 0, 1)", true).answers("write(1, 0, 1)", false).answers("sentBack(1)", 1).answers("sentBack(0)", 0)
                .answers("write(1, 1, 1)", true).answers("commit(0)", 'c').answers("write(2, 0, 1)", false).answers("sentBack(2)", 1)
                .answers("write(2, 0, 1)", true);
    }

    private static void writeRefuses() {
        Story.promise(33, NO_TRANSACTION)
                .after(BEGUN).refuses(Story.ARGUMENT, "write(-1, 0, 1)", "write(3, 0, 1)", "write(MIN, 0, 1)", "write(MAX, 0, 1)")
                .answers("write(2, 0, 1)", true).answers("write(0, 1, 1)", true);
        Story.promise(33, NO_REFERENCE)
                .refuses(Story.INDEX, "write(0, 0, 1)").after(BEGUN)
                .refuses(Story.INDEX, "write(0, -1, 1)", "write(0, 3, 1)", "write(0, 6, 1)", "write(0, MIN, 1)", "write(0, MAX, 1)")
                .answers("write(0, 2, 1)", true);
        Story.promise(33, NOT_OPEN)
                .after("addReference(5, 0, 9)").refuses(Story.STATE, "write(0, 0, 1)", "write(2, 0, 1)").after("begin(1)")
                .answers("write(1, 0, 1)", true).refuses(Story.STATE, "write(0, 0, 1)", "write(2, 0, 1)").after("end(1)")
                .refuses(Story.STATE, "write(1, 0, 1)");
        Story.promise(33, "Throws `UnsupportedOperationException` if it adds to the reference, or the value is out of range")
                .after(BEGUN).answers("add(0, 0, 1)", true).answers("add(0, 1, 0)", true)
                .refuses(Story.UNSUPPORTED, "write(0, 0, 1)", "write(0, 1, 1)", "write(0, 2, 1000)", "write(0, 2, -1000)", "write(0, 2, MAX)",
                        "write(0, 2, MIN)")
                .answers("add(0, 0, -1)", true).refuses(Story.UNSUPPORTED, "write(0, 0, 1)").answers("write(0, 2, 999)", true)
                .answers("add(0, 2, -1)", true).answers("write(0, 2, -999)", true).answers("write(1, 0, 1)", true).answers("write(1, 1, 1)", true)
                .answers("end(0)", 0).answers("begin(0)", 0).answers("add(0, 0, 1)", true);
        Story.promise(33, "Throws `UnsupportedOperationException` if it adds to the reference, or the value is out of range")
                .after(BEGUN).after("write(1, 0, 1)", "add(2, 0, 1)").refuses(Story.UNSUPPORTED, "write(0, 0, 1000)", "write(2, 0, 1)")
                .answersEach(0, "sentBack(0)", "sentBack(1)", "sentBack(2)").answers("write(0, 0, 1)", true).answers("sentBack(1)", 1);
    }

    private static void ensure() {
        Story.promise(34, "Lets a transaction ensure a reference.")
                .after(BEGUN).answers("ensure(0, 0)", true).answers("ensure(0, 0)", true).answers("ensure(1, 0)", true).answers("write(2, 0, 1)", false)
                .answers("read(0, 0)", 5).answers("commit(0)", 'c').answers("moment()", 0).answers("logged()", 0);
        Story.promise(34, "Returns false if it is sent back.")
                .after(BEGUN).answers("write(0, 0, 1)", true).answers("ensure(1, 0)", false).answers("sentBack(1)", 1).answers("commit(0)", 'c')
                .answers("ensure(2, 0)", false).answers("sentBack(2)", 1).answers("ensure(2, 0)", true).answers("ensure(1, 0)", false)
                .answers("ensure(1, 0)", true);
        Story.promise(34, NO_TRANSACTION)
                .after(BEGUN).refuses(Story.ARGUMENT, "ensure(-1, 0)", "ensure(3, 0)", "ensure(MIN, 0)", "ensure(MAX, 0)")
                .answers("ensure(0, 0)", true).answers("ensure(2, 0)", true);
        Story.promise(34, NO_REFERENCE)
                .refuses(Story.INDEX, "ensure(0, 0)").after(BEGUN)
                .refuses(Story.INDEX, "ensure(0, -1)", "ensure(0, 3)", "ensure(0, 6)", "ensure(0, MIN)", "ensure(0, MAX)").answers("ensure(0, 2)", true);
        Story.promise(34, NOT_OPEN)
                .after("addReference(5, 0, 9)").refuses(Story.STATE, "ensure(0, 0)", "ensure(2, 0)").after("begin(1)").answers("ensure(1, 0)", true)
                .refuses(Story.STATE, "ensure(0, 0)", "ensure(2, 0)").after("commit(1)").refuses(Story.STATE, "ensure(1, 0)");
    }

    private static void add() {
        String adds = "Lets a transaction add to a reference when it commits; if it has written the reference, to what it has written.";
        Story.promise(35, adds)
                .after(BEGUN).answers("add(0, 0, 7)", true).answers("read(0, 0)", 12).answers("add(0, 0, -9)", true).answers("read(0, 0)", 3)
                .answers("valueOf(0)", 5).answers("write(0, 1, 50)", true).answers("add(0, 1, 7)", true).answers("read(0, 1)", 57)
                .answers("write(0, 1, 60)", true).answers("read(0, 1)", 60).answers("add(0, 1, -99)", true).answers("commit(0)", 'c')
                .answers("valueOf(0)", 3).answers("valueOf(1)", -39).answers("valueOf(2)", 5);
        Story.promise(35, "- `number`: the number, -99 to 99")
                .after(BEGUN).answers("add(0, 0, -99)", true).answers("add(0, 1, 99)", true)
                .refuses(Story.UNSUPPORTED, "add(0, 2, -100)", "add(0, 2, 100)").answers("read(0, 0)", -94).answers("read(0, 1)", 104)
                .answers("read(0, 2)", 5).answers("write(0, 2, 1)", true);
        Story.promise(35, "Returns true.")
                .after(BEGUN).answers("write(0, 0, 1)", true).answers("ensure(0, 1)", true).answers("add(1, 0, 1)", true).answers("add(2, 0, 0)", true)
                .answers("add(1, 1, 1)", true).answersEach(0, "sentBack(0)", "sentBack(1)", "sentBack(2)").answers("commit(0)", 'c')
                .answers("add(2, 0, 1)", true).answers("sentBack(2)", 0);
        Story.promise(35, NO_TRANSACTION)
                .after(BEGUN).refuses(Story.ARGUMENT, "add(-1, 0, 1)", "add(3, 0, 1)", "add(MIN, 0, 1)", "add(MAX, 0, 1)")
                .answers("add(0, 0, 1)", true).answers("add(2, 0, 1)", true);
        Story.promise(35, NO_REFERENCE)
                .refuses(Story.INDEX, "add(0, 0, 1)").after(BEGUN)
                .refuses(Story.INDEX, "add(0, -1, 1)", "add(0, 3, 1)", "add(0, 6, 1)", "add(0, MIN, 1)", "add(0, MAX, 1)").answers("add(0, 2, 1)", true);
        Story.promise(35, NOT_OPEN)
                .after("addReference(5, 0, 9)").refuses(Story.STATE, "add(0, 0, 1)", "add(2, 0, 1)").after("begin(1)").answers("add(1, 0, 1)", true)
                .refuses(Story.STATE, "add(0, 0, 1)", "add(2, 0, 1)").after("commit(1)").refuses(Story.STATE, "add(1, 0, 1)").answers("valueOf(0)", 6);
    }

    private static void addRefuses() {
        String said = "Throws `UnsupportedOperationException` if the number is out of range, or what it adds to the reference, or has written there, "
                + "would not be from -999 to 999 with it";
        for (int sign = -1; sign <= 1; sign += 2) {
            Story sums = Story.promise(35, said).after(BEGUN).refuses(Story.UNSUPPORTED, "add(0, 0, " + 100 * sign + ")");
            for (int i = 0; i < 10; i++) {
                sums.answers("add(0, 0, " + 99 * sign + ")", true);
            }
            sums.refuses(Story.UNSUPPORTED, "add(0, 0, " + 10 * sign + ")", "add(0, 0, " + 99 * sign + ")").answers("add(0, 0, " + 9 * sign + ")", true)
                    .answers("read(0, 0)", 5 + 999 * sign).refuses(Story.UNSUPPORTED, "add(0, 0, " + sign + ")").answers("add(0, 0, 0)", true)
                    .answers("add(0, 0, " + -4 * sign + ")", true).answers("add(0, 0, " + 4 * sign + ")", true).refuses(Story.UNSUPPORTED,
                            "add(0, 0, " + sign + ")").answers("add(1, 0, " + sign + ")", true);
            Story.promise(35, said).after(BEGUN).after("write(0, 0, " + 950 * sign + ")")
                    .refuses(Story.UNSUPPORTED, "add(0, 0, " + 50 * sign + ")", "add(0, 0, " + 99 * sign + ")").answers("read(0, 0)", 950 * sign)
                    .answers("add(0, 0, " + 49 * sign + ")", true).answers("read(0, 0)", 999 * sign)
                    .refuses(Story.UNSUPPORTED, "add(0, 0, " + sign + ")").answers("add(0, 0, " + -sign + ")", true).answers("commit(0)", 'c')
                    .answers("valueOf(0)", 998 * sign);
        }
        Story.promise(35, said).after(BEGUN)
                .refuses(Story.UNSUPPORTED, "add(0, 0, MIN)", "add(0, 0, MAX)", "add(0, 0, 100)", "add(0, 0, -100)")
                .answers("write(0, 0, 999)", true).refuses(Story.UNSUPPORTED, "add(0, 0, -100)", "add(0, 0, 1)").answers("add(0, 0, -99)", true)
                .answers("read(0, 0)", 900);
    }

    /** The first and the last ones of each, for all calls together: 0 to 2, and as many references as there are. */
    private static void noTransactionOrReference() {
        for (int references = 0; references < 6; references++) {
            Story.promise(33, NO_REFERENCE).after(Story.repeated("addReference(#, 0, 9)", 0, references)).after("begin(0)")
                    .answers("write(0, " + references + ", 9)", true).answers("read(0, " + references + ")", 9)
                    .refuses(Story.INDEX, "write(0, " + (references + 1) + ", 9)", "read(0, " + (references + 1) + ")",
                            "ensure(0, " + (references + 1) + ")", "add(0, " + (references + 1) + ", 1)");
        }
    }

    private static void listedFirst() {
        for (String call : new String[] {"read(T, R)", "ensure(T, R)", "write(T, R, 1)", "add(T, R, 1)", "write(T, R, 1000)", "add(T, R, 100)"}) {
            int promise = call.startsWith("read") ? 32 : call.startsWith("write") ? 33 : call.startsWith("ensure") ? 34 : 35;
            Story.listedFirst(promise).after("addReference(5, 0, 9)", "begin(0)")
                    .refuses(Story.ARGUMENT, call.replace("T", "3").replace("R", "1"), call.replace("T", "-1").replace("R", "0"),
                            call.replace("T", "-1").replace("R", "-1"), call.replace("T", "3").replace("R", "0"))
                    .refuses(Story.INDEX, call.replace("T", "0").replace("R", "1"), call.replace("T", "1").replace("R", "1"),
                            call.replace("T", "2").replace("R", "-1"))
                    .refuses(Story.STATE, call.replace("T", "1").replace("R", "0"), call.replace("T", "2").replace("R", "0"));
        }
        Story.listedFirst(33).after("addReference(5, 0, 9)", "begin(0)", "add(0, 0, 1)", "begin(1)", "add(1, 0, 1)", "end(1)")
                .refuses(Story.STATE, "write(1, 0, 1)", "write(1, 0, 1000)").refuses(Story.UNSUPPORTED, "write(0, 0, 1000)", "write(0, 0, 1)");
        Story.listedFirst(31).after("begin(0)").refuses(Story.ARGUMENT, "begin(3)", "begin(-1)").refuses(Story.STATE, "begin(0)");
        Story.listedFirst(37).refuses(Story.ARGUMENT, "end(3)", "end(-1)").refuses(Story.STATE, "end(0)", "end(2)");
    }

    private static void endAndSentBack() {
        Story.promise(37, "Ends a transaction without committing it.")
                .after(BEGUN).after("addAgent(0, -9, 9, 'c')", "write(0, 0, 7)", "add(0, 1, 1)", "ensure(0, 2)", "send(0, 0, 3)")
                .answers("end(0)", 0).answersEach(5, "valueOf(0)", "valueOf(1)", "valueOf(2)").answers("moment()", 0).answers("logged()", 0)
                .refuses(Story.MISSING, "act(0)").refuses(Story.STATE, "end(0)", "commit(0)", "read(0, 0)").answers("write(1, 0, 1)", true)
                .answers("write(2, 2, 1)", true).answers("begin(0)", 0).answers("read(0, 0)", 5).answers("read(0, 1)", 5).answers("write(0, 1, 2)", true);
        Story.promise(37, "Ends a transaction without committing it.")
                .after(BEGUN).after("addAgent(0, -9, 9, 'c')", "write(0, 0, 7)", "add(0, 1, 1)", "send(0, 0, 3)", "end(0)").answers("begin(0)", 0)
                .answers("send(0, 0, 2)", 0).answers("add(0, 2, 1)", true).answers("commit(0)", 'c').answers("act(0)", 2)
                .refuses(Story.MISSING, "act(0)").answers("logged()", 1).answers("valueOf(0)", 5).answers("valueOf(1)", 5).answers("valueOf(2)", 6);
        Story.promise(37, "Returns how often it was sent back.")
                .after(BEGUN).after("write(0, 0, 1)", "write(1, 0, 1)", "ensure(1, 0)").answers("end(1)", 2).answers("end(0)", 0).answers("end(2)", 0)
                .answers("begin(1)", 0).answers("end(1)", 0);
        Story.promise(37, NO_TRANSACTION).after("begin(0)", "begin(1)", "begin(2)").refuses(Story.ARGUMENT, "end(-1)", "end(3)", "end(MIN)", "end(MAX)")
                .answersEach(0, "end(0)", "end(1)", "end(2)");
        Story.promise(37, NOT_OPEN).refuses(Story.STATE, "end(0)", "end(1)", "end(2)").after("begin(1)").refuses(Story.STATE, "end(0)", "end(2)")
                .answers("end(1)", 0).refuses(Story.STATE, "end(1)").after("begin(2)", "commit(2)").refuses(Story.STATE, "end(2)");
        Story.promise(38, "Returns how often a transaction was sent back since it began.")
                .after(BEGUN).answers("sentBack(1)", 0).after("write(0, 0, 1)", "write(1, 0, 1)").answers("sentBack(1)", 1).after("ensure(1, 0)")
                .answers("sentBack(1)", 2).answers("sentBack(0)", 0).answers("end(1)", 2).answers("begin(1)", 0).answers("sentBack(1)", 0)
                .after("write(1, 0, 1)").answers("sentBack(1)", 1);
        Story.promise(38, "Returns the number of times, that of the last time if it is not open, 0 if it never began.")
                .answersEach(0, "sentBack(0)", "sentBack(1)", "sentBack(2)").after(BEGUN).after("write(0, 0, 1)", "write(1, 0, 1)", "write(2, 0, 1)",
                        "write(2, 0, 1)").answers("end(1)", 1).answers("sentBack(1)", 1).answers("commit(2)", 'c').answers("sentBack(2)", 2)
                .answers("commit(0)", 'c').answers("sentBack(0)", 0).answers("sentBack(1)", 1).answers("begin(2)", 1).answers("sentBack(2)", 0)
                .answers("end(2)", 0).answers("sentBack(2)", 0);
        Story.promise(38, "Returns the number of times, that of the last time if it is not open, 0 if it never began.")
                .after("addReference(5, 0, 9)", "begin(0)", "begin(1)", "write(0, 0, 1)", "write(1, 0, 1)", "end(0)", "write(1, 0, 10)")
                .answers("commit(1)", 'b').answers("sentBack(1)", 1);
        Story.promise(38, NO_TRANSACTION).refuses(Story.ARGUMENT, "sentBack(-1)", "sentBack(3)", "sentBack(MIN)", "sentBack(MAX)")
                .answersEach(0, "sentBack(0)", "sentBack(2)");
    }

    private static void references() {
        Story.term("References", "30", "At most 6 references are numbered from 0.")
                .refuses(Story.INDEX, "valueOf(0)").answers("addReference(1, 0, 9)", 0).answers("addReference(2, 0, 9)", 1)
                .refuses(Story.INDEX, "valueOf(2)").after(Story.repeated("addReference(#, 0, 9)", 3, 5)).answers("addReference(6, 0, 9)", 5)
                .answers("valueOf(5)", 6).answers("valueOf(0)", 1).refuses(Story.STATE, "addReference(7, 0, 9)").refuses(Story.INDEX, "valueOf(6)", "valueOf(-1)");
        Story.term("References", "31, 42", "The moment is 0 at first.")
                .answers("moment()", 0).answers("begin(0)", 0).after("addReference(5, 0, 9)").answers("moment()", 0).answers("commit(0)", 'c')
                .answers("moment()", 0).after(committed(6, 6)).answers("moment()", 1);
    }

    private static void histories() {
        String said = "A reference has a value from -999 to 999, bounds within which it must be, and a history: its values with the moments in "
                + "which they came, of which it keeps the latest ones, as many as its limit tells, 2 at first, and at most 8.";
        Story.term("References", "30, 36, 41", said)
                .answers("addReference(-999, -999, 999)", 0).answers("addReference(999, -999, 999)", 1).after("begin(0)", "write(0, 0, 999)",
                        "write(0, 1, -999)").answers("commit(0)", 'c').answers("valueOf(0)", 999).answers("valueOf(1)", -999);
        Story.term("References", "32, 41", said)
                .after("addReference(0, 0, 999)").answers("history(0)", 1).after(committed(1, 1)).answers("history(0)", 2).after(committed(2, 2))
                .answers("history(0)", 2).after(committed(3, 9)).answers("history(0)", 2);
        Story limits = Story.term("References", "32, 41", said).after("addReference(0, 0, 999)").after(committed(1, 2));
        for (int limit = 2; limit <= 10; limit++) {
            int kept = Math.min(limit, 8);
            limits.after("begin(0)").after(committed(1, kept)).answers("history(0)", kept).answers("read(0, 0)", -10000).answers("end(0)", 1)
                    .answers("history(0)", kept).after(committed(11, 11)).answers("history(0)", Math.min(limit + 1, 8));
        }
        for (int raised = 0; raised <= 8; raised++) {
            checkKept(said, raised);
        }
    }

    /** With a limit of 2 and as much more as it was raised: the oldest value that is kept can be read, and none before it. */
    private static void checkKept(String said, int raised) {
        int limit = Math.min(2 + raised, 8);
        Story story = Story.term("References", "32, 41", said).after("addReference(0, 0, 999)");
        for (int i = 0; i < raised; i++) {
            story.after("begin(0)").after(committed(1, Math.min(i + 2, 8))).answers("read(0, 0)", -10000).answers("end(0)", 1);
        }
        story.after(committed(77, 77)).after("begin(0)").after(committed(1, limit - 1)).answers("read(0, 0)", 77).after("begin(1)")
                .after(committed(limit, limit)).answers("read(0, 0)", -10000).answers("sentBack(0)", 1).answers("read(0, 0)", limit)
                .answers("read(1, 0)", limit - 1).answers("sentBack(1)", 0);
    }

    private static void open() {
        Story.term("Transactions", "31, 37", "The transactions 0 to 2 can be open.")
                .refuses(Story.ARGUMENT, "begin(-1)", "begin(3)").answersEach(0, "begin(2)", "begin(0)", "begin(1)").refuses(Story.STATE, "begin(0)", "begin(2)")
                .refuses(Story.ARGUMENT, "end(3)", "commit(3)", "end(-1)", "commit(-1)").answersEach(0, "end(0)", "end(2)", "end(1)");
        String younger = "One that begins is younger than all that are open, and its point is the present moment.";
        Story.term("Transactions", "31, 33", younger)
                .after("addReference(5, 0, 999)", "begin(2)", "begin(0)").answers("write(0, 0, 1)", true).answers("write(2, 0, 2)", true)
                .answers("sentBack(0)", 1).answers("begin(1)", 0).answers("write(1, 0, 1)", false).answers("end(2)", 0).answers("begin(2)", 0)
                .answers("write(2, 0, 1)", true).answers("write(1, 0, 1)", true).answers("sentBack(2)", 1).answers("write(0, 0, 1)", true)
                .answers("sentBack(1)", 2).answers("commit(0)", 'c').answers("begin(0)", 1).answers("write(0, 0, 7)", true)
                .answers("write(2, 0, 7)", false).answers("write(2, 0, 7)", true).answers("sentBack(0)", 1).answers("sentBack(1)", 2);
        Story.term("Transactions", "31 to 33", younger)
                .after("addReference(5, 0, 999)", "begin(0)").after(committed(6, 6)).answers("begin(1)", 1).answers("read(0, 0)", 5)
                .answers("read(1, 0)", 6).after(committed(7, 7)).answers("begin(2)", 2).answers("read(2, 0)", 7).answers("read(1, 0)", 6);
    }

    private static void sentBackForgets() {
        Story.term("Transactions", "32 to 36, 46", BACK)
                .after(BEGUN).after("addAgent(0, -99, 99, 'c')", "write(2, 0, 8)", "ensure(2, 1)", "add(2, 2, 9)", "send(2, 0, 7)")
                .answers("write(0, 0, 1)", true).answers("sentBack(2)", 1).answers("read(2, 0)", 5).answers("read(2, 2)", 5)
                .answers("write(0, 1, 1)", true).answers("sentBack(2)", 1).answers("write(2, 2, 6)", true).answers("commit(2)", 'c')
                .refuses(Story.MISSING, "act(0)").answers("valueOf(2)", 6).answers("valueOf(0)", 5);
        for (String back : new String[] {"write(1, 0, 1)", "ensure(1, 0)"}) {
            Story.term("Transactions", "32 to 36, 46", BACK)
                    .after(BEGUN).after("addAgent(0, -99, 99, 'c')", "write(0, 0, 3)", "write(1, 1, 8)", "ensure(1, 1)", "add(1, 2, 9)", "send(1, 0, 7)")
                    .answers(back, false).answers("read(1, 1)", 5).answers("read(1, 2)", 5).answers("write(2, 1, 4)", true).answers("commit(1)", 'c')
                    .answers("moment()", 0).refuses(Story.MISSING, "act(0)").answers("sentBack(2)", 0);
        }
        Story.term("Transactions", "32 to 36, 46", BACK)
                .after(BEGUN).after("addAgent(0, -99, 99, 'c')", "end(2)", "write(1, 1, 8)", "ensure(1, 1)", "add(1, 2, 9)", "send(1, 0, 7)")
                .after(committed(6, 7)).answers("read(1, 0)", -10000).answers("read(1, 1)", 5).answers("read(1, 2)", 5).answers("read(1, 0)", 7)
                .answers("commit(1)", 'c').answers("moment()", 2).refuses(Story.MISSING, "act(0)");
        Story.term("Transactions", "32 to 36, 46", BACK)
                .after(BEGUN).after("addAgent(0, -99, 99, 'c')", "write(0, 0, 3)", "write(1, 1, 8)", "ensure(1, 2)", "add(1, 0, 9)", "send(1, 0, 7)")
                .answers("commit(1)", 's').answers("read(1, 0)", 5).answers("read(1, 1)", 5).answers("write(2, 2, 4)", true).answers("sentBack(1)", 1)
                .answers("end(0)", 0).answers("commit(1)", 'c').answers("moment()", 0).refuses(Story.MISSING, "act(0)");
        Story.term("Transactions", "36, 46, 47", BACK)
                .after(BEGUN).after("addAgent(0, -99, 99, 'c')", "write(0, 0, 3)", "send(1, 0, 7)", "write(1, 0, 1)").answers("sentBack(1)", 1)
                .answers("send(1, 0, 2)", 0).answers("write(1, 1, 4)", true).answers("add(1, 2, 1)", true).answers("commit(1)", 'c')
                .answers("act(0)", 2).refuses(Story.MISSING, "act(0)").answers("valueOf(1)", 4).answers("valueOf(2)", 6).answers("valueOf(0)", 5)
                .answers("begin(1)", 1).answers("send(1, 0, 5)", 0).answers("commit(1)", 'c').answers("act(0)", 7).refuses(Story.MISSING, "act(0)");
        Story.term("Transactions", "31 to 33", BACK)
                .after(BEGUN).after("write(0, 1, 9)").answers("commit(0)", 'c').answers("read(1, 1)", 5).answers("begin(0)", 1)
                .answers("ensure(1, 1)", false).answers("read(1, 1)", 9).answers("ensure(1, 1)", true).answers("write(0, 1, 1)", false)
                .answers("sentBack(0)", 1).answers("write(0, 2, 1)", true).answers("write(1, 2, 1)", true).answers("sentBack(0)", 2)
                .answers("write(2, 2, 1)", false).answers("sentBack(1)", 1);
    }

    /** The transaction 1 is between 0 and 2, however it is sent back. */
    private static void staysAsOld() {
        String[][] ways = {{"write(0, 0, 1)", "write(1, 0, 1)"}, {"write(0, 0, 1)", "ensure(1, 0)"}, {"ensure(0, 0)", "write(1, 0, 1)"},
            {"write(1, 0, 1)", "write(0, 0, 1)"}, {"ensure(1, 0)", "write(0, 0, 1)"}, {"write(1, 0, 1)", "ensure(0, 0)"},
            {"ensure(0, 0)", "add(1, 0, 1)", "commit(1)"}, {"ensure(1, 0)", "add(0, 0, 1)", "commit(0)", "begin(0)"},
            {"write(0, 0, 1)", "commit(0)", "begin(0)", "write(1, 0, 1)"}, {"write(0, 0, 1)", "commit(0)", "begin(0)", "ensure(1, 0)"},
            {"add(0, 0, 1)", "commit(0)", "begin(0)", "add(0, 0, 1)", "commit(0)", "begin(0)", "read(1, 0)"}};
        for (String[] way : ways) {
            boolean begunAnew = String.join(" ", way).contains("begin(0)");
            Story.term("Transactions", "31 to 36", BACK)
                    .after(BEGUN).after(way).answers("sentBack(1)", 1).answers("write(2, 1, 1)", true).answers("write(1, 1, 1)", true)
                    .answers("sentBack(2)", 1).answers("write(0, 2, 1)", true).answers("write(1, 2, 1)", begunAnew)
                    .answers("sentBack(0)", begunAnew ? 1 : 0).answers("sentBack(1)", begunAnew ? 1 : 2);
        }
    }

    private static void reads() {
        Story.term("Transactions", "32", READS)
                .after(BEGUN).after("write(1, 0, 7)").answers("read(1, 0)", 7).after("add(1, 0, 2)").answers("read(1, 0)", 9)
                .after("write(1, 0, 0)").answers("read(1, 0)", 0).answers("read(0, 0)", 5).answers("read(2, 0)", 5);
        Story.term("Transactions", "32", READS)
                .after(BEGUN).answers("end(2)", 0).after(committed(6, 6)).answers("moment()", 1).answers("read(0, 0)", 5).answers("begin(2)", 1)
                .answers("read(2, 0)", 6).after("write(2, 1, 9)", "commit(2)").answers("read(0, 1)", 5).answers("begin(2)", 2)
                .answers("read(2, 1)", 9).answers("read(2, 0)", 6).answers("read(0, 0)", 5).after("add(0, 0, 10)").answers("read(0, 0)", 15)
                .after("add(0, 0, -30)").answers("read(0, 0)", -15).answers("commit(0)", 'c').answers("valueOf(0)", -14);
        Story.term("Transactions", "32", READS)
                .after("addReference(990, 0, 999)", "begin(0)", "add(0, 0, 99)").answers("read(0, 0)", 1089).answers("commit(0)", 'b')
                .answers("valueOf(0)", 990);
        Story.term("Transactions", "32", READS)
                .after(BEGUN).answers("end(2)", 0).after("write(0, 0, 9)").answers("write(0, 0, 8)", true).after("end(1)", "begin(1)", "add(1, 1, 1)",
                        "commit(1)", "begin(1)", "add(1, 1, 1)", "commit(1)", "begin(1)", "add(1, 1, 1)", "commit(1)").answers("read(0, 0)", 8)
                .answers("read(0, 2)", 5).answers("sentBack(0)", 0).answers("read(0, 1)", -10000).answers("read(0, 0)", 5).answers("read(0, 1)", 8);
    }

    private static void readsBehindHistories() {
        String said = "If the history does not have this any more, the limit of the reference increases by 1, if it is less than 8, and the "
                + "transaction is sent back.";
        Story story = Story.term("Transactions", "32, 41", said).after("addReference(0, 0, 999)", "addReference(0, 0, 999)");
        for (int limit = 2; limit <= 9; limit++) {
            int kept = Math.min(limit, 8);
            story.after("begin(0)").after(committed(1, kept)).answers("read(0, 0)", -10000).answers("sentBack(0)", 1).answers("read(0, 0)", kept)
                    .answers("end(0)", 1);
        }
        story.after(committed(1, 9)).answers("history(0)", 8).answers("history(1)", 1);
        Story.term("Transactions", "32, 41", said)
                .after("addReference(0, 0, 999)", "begin(0)", "begin(1)").after(committed(1, 2)).answers("read(0, 0)", -10000)
                .answers("read(1, 0)", -10000).after(committed(3, 7)).answers("history(0)", 4).answersEach(-10000, "read(0, 0)", "read(1, 0)")
                .after(committed(8, 9)).answers("history(0)", 6);
        Story.term("Transactions", "32, 41", said)
                .after("addReference(0, 0, 999)", "begin(0)", "write(0, 0, 3)").answers("read(0, 0)", 3).answers("sentBack(0)", 0);
        Story.term("Transactions", "32, 41", said)
                .after("addReference(0, 0, 999)", "begin(0)", "add(0, 0, 1)").after(committed(1, 2)).answers("read(0, 0)", -10000)
                .answers("read(0, 0)", 2).answers("commit(0)", 'c').answers("valueOf(0)", 2).answers("moment()", 2);
    }

    private static void points() {
        for (String call : new String[] {"write(0, 0, 9)", "ensure(0, 0)"}) {
            Story.term("Transactions", "33, 34", POINT)
                    .after("addReference(0, 0, 999)").after(committed(1, 1)).answers("begin(0)", 1).answers(call, true).answers("sentBack(0)", 0);
            Story.term("Transactions", "33, 34", POINT)
                    .after("addReference(0, 0, 999)").answers("begin(0)", 0).after(committed(1, 1)).answers(call, false).answers("sentBack(0)", 1)
                    .answers(call, true).answers("sentBack(0)", 1);
            Story.term("Transactions", "33, 34", POINT)
                    .after("addReference(0, 0, 999)", "addReference(0, 0, 9)").answers("begin(0)", 0).after("begin(1)", "write(1, 1, 1)", "commit(1)")
                    .answers(call, true).answers("sentBack(0)", 0).answers("moment()", 1);
            Story.term("Transactions", "33, 34", POINT)
                    .after("addReference(0, 0, 999)").answers("begin(0)", 0).after("begin(1)", "write(1, 0, 0)", "commit(1)").answers(call, false);
        }
        Story.term("Transactions", "35", POINT)
                .after("addReference(0, 0, 999)").answers("begin(0)", 0).after(committed(1, 3)).answers("add(0, 0, 5)", true).answers("sentBack(0)", 0)
                .answers("commit(0)", 'c').answers("valueOf(0)", 8).answers("moment()", 4);
        Story.term("Transactions", "33, 34", POINT)
                .after("addReference(0, 0, 999)", "begin(0)", "begin(1)").after(committed(1, 1)).after("ensure(1, 0)").answers("ensure(1, 0)", true)
                .answers("write(0, 0, 1)", false).answers("sentBack(1)", 1).answers("write(0, 0, 1)", true).answers("sentBack(1)", 2);
        Story.term("Transactions", "33, 34", POINT)
                .after("addReference(0, 0, 999)", "begin(0)", "begin(1)").after(committed(1, 1)).after("write(1, 0, 2)").answers("write(1, 0, 2)", true)
                .answers("ensure(0, 0)", false).answers("sentBack(1)", 1).answers("ensure(0, 0)", true).answers("sentBack(1)", 2);
    }

    private static void againstOthers() {
        String[] calls = {"write(T, 0, 1)", "ensure(T, 0)", "add(T, 0, 1)"};
        for (int own = 0; own < 3; own++) {
            for (int others = 0; others < 3; others++) {
                boolean fights = own == 0 && others < 2 || own == 1 && others == 0;
                String byOlder = calls[own].replace("T", "0");
                String byYounger = calls[own].replace("T", "1");
                Story.term("Transactions", "33 to 35", AGAINST)
                        .after(BEGUN).answers(calls[others].replace("T", "1"), true).answers(byOlder, true).answers("sentBack(1)", fights ? 1 : 0)
                        .answers("sentBack(0)", 0);
                Story.term("Transactions", "33 to 35", AGAINST)
                        .after(BEGUN).answers(calls[others].replace("T", "0"), true).answers(byYounger, !fights).answers("sentBack(1)", fights ? 1 : 0)
                        .answers("sentBack(0)", 0).answers("sentBack(2)", 0);
            }
        }
        Story.term("Transactions", "33, 34", AGAINST)
                .after(BEGUN).answers("write(0, 1, 1)", true).answers("ensure(0, 2)", true).answers("write(1, 0, 1)", true)
                .answers("end(0)", 0).answers("write(1, 1, 1)", true).answers("write(1, 2, 1)", true).answers("sentBack(1)", 0);
        Story.term("Transactions", "33", AGAINST)
                .after(BEGUN).answers("commit(0)", 'c').answers("write(1, 0, 1)", true).answers("begin(0)", 0).answers("write(0, 0, 2)", false)
                .answers("commit(1)", 'c').answers("write(2, 0, 3)", false).answers("sentBack(0)", 1);
        Story.term("Transactions", "33", AGAINST)
                .after(BEGUN).answers("write(0, 1, 1)", true).answers("commit(0)", 'c').answers("begin(0)", 1).answers("write(0, 1, 2)", true)
                .answers("write(1, 1, 3)", false).answers("sentBack(0)", 0).answers("write(1, 1, 3)", true).answers("sentBack(0)", 1);
    }

    /** Three are open, by rising age: the one that writes meets the two others by rising numbers, whatever their ages. */
    private static void againstTwoOthers() {
        int[][] ages = {{0, 1, 2}, {0, 2, 1}, {1, 0, 2}, {1, 2, 0}, {2, 0, 1}, {2, 1, 0}};
        for (int[] order : ages) {
            for (int writer = 0; writer < 3; writer++) {
                for (String held : new String[] {"ensure(T, 0)", "add(T, 0, 1)"}) {
                    checkTwoOthers(order, writer, held);
                }
            }
        }
    }

    private static void checkTwoOthers(int[] order, int writer, String held) {
        int[] age = new int[3];
        Story story = Story.term("Transactions", "33", AGAINST).after("addReference(5, 0, 9)");
        for (int i = 0; i < 3; i++) {
            age[order[i]] = i;
            story.after("begin(" + order[i] + ")");
        }
        int[] due = new int[3];
        boolean goesOn = true;
        for (int other = 0; other < 3; other++) {
            if (other != writer) {
                story.answers(held.replace("T", Integer.toString(other)), true);
                boolean met = goesOn && held.startsWith("ensure");
                due[other] += met && age[other] > age[writer] ? 1 : 0;
                due[writer] += met && age[other] < age[writer] ? 1 : 0;
                goesOn = due[writer] == 0;
            }
        }
        story.answers("write(" + writer + ", 0, 7)", goesOn).answers("read(" + writer + ", 0)", goesOn ? 7 : 5);
        for (int i = 0; i < 3; i++) {
            story.answers("sentBack(" + i + ")", due[i]);
        }
    }

    private static void ensuredStays() {
        String said = "A reference that was ensured stays so until the transaction has ended or is sent back.";
        for (String between : new String[] {"read(0, 0)", "write(0, 1, 1)", "add(0, 1, 1)", "add(0, 0, 1)", "ensure(0, 1)", "ensure(0, 0)", "commit(2)"}) {
            Story.term("Transactions", "34", said).after(BEGUN).answers("ensure(0, 0)", true).after(between).answers("write(1, 0, 1)", false)
                    .answers("write(1, 0, 1)", false).answers("sentBack(0)", 0);
        }
        for (String ending : new String[] {"commit(0)", "end(0)"}) {
            Story.term("Transactions", "34", said).after(BEGUN).answers("ensure(0, 0)", true).answers("write(1, 0, 1)", false).after(ending)
                    .answers("write(1, 0, 1)", true).answers("begin(0)", 0).answers("sentBack(1)", 1);
        }
        Story.term("Transactions", "34", said).after(BEGUN).after("write(0, 0, 99)", "ensure(0, 1)").after("end(2)", "begin(2)")
                .answers("ensure(1, 2)", true).answers("write(1, 1, 1)", false).answers("write(2, 2, 1)", true).answers("commit(0)", 'c')
                .answers("write(1, 1, 1)", true);
        Story.term("Transactions", "34", said).after("addReference(5, 0, 9)", "begin(0)", "ensure(0, 0)", "write(0, 0, 10)").answers("commit(0)", 'b')
                .answers("begin(1)", 0).answers("write(1, 0, 1)", true);
    }
}
