/** Promises 45 to 49, and what stands under Agents. */
final class AgentBoundaries {
    private static final String NO_AGENT = "Throws `IndexOutOfBoundsException` if there is no such agent";
    private static final String ROW = "An agent has a value from -999 to 999, bounds, and a mode, 'f' or 'c'; numbers that are sent to it wait in a "
            + "row of at most 12; what would be more is lost.";

    private AgentBoundaries() {
    }

    static void tell() {
        addAgent();
        addAgentRefuses();
        send();
        sendRefuses();
        act();
        actRefuses();
        beginAnew();
        beginAnewRefuses();
        errors();
        numbers();
        rows();
        firstLeaves();
        failing();
    }

    private static void addAgent() {
        Story.promise(45, "Adds an agent.")
                .answers("addAgent(5, 0, 9, 'c')", 0).answers("errors(0)", 0).refuses(Story.MISSING, "act(0)").refuses(Story.STATE, "beginAnew(0, 5)")
                .answers("send(-1, 0, 4)", 1).answers("act(0)", 9);
        Story.promise(45, "Returns its number.")
                .answers("addAgent(0, 0, 9, 'f')", 0).answers("addAgent(1, 0, 9, 'c')", 1).answers("addAgent(2, 0, 9, 'f')", 2)
                .answers("addAgent(3, 0, 9, 'c')", 3).after("send(-1, 3, 1)").answers("act(3)", 4);
    }

    private static void addAgentRefuses() {
        Story.promise(45, "Throws `IllegalArgumentException` if the bounds are not from -999 to 999, or the value is not within them, or there is no such mode")
                .answers("addAgent(-999, -999, 999, 'f')", 0).answers("addAgent(999, 999, 999, 'c')", 1)
                .refuses(Story.ARGUMENT, "addAgent(0, -1000, 0, 'f')", "addAgent(0, 0, 1000, 'f')", "addAgent(-1000, -1000, 0, 'c')",
                        "addAgent(1000, 0, 1000, 'c')", "addAgent(1, 2, 5, 'f')", "addAgent(6, 2, 5, 'f')", "addAgent(3, 4, 2, 'f')",
                        "addAgent(0, MIN, MAX, 'f')", "addAgent(MAX, 0, 9, 'c')", "addAgent(MIN, 0, 9, 'c')", "addAgent(0, -999, 1000, 'c')",
                        "addAgent(0, -1000, 999, 'c')", "addAgent(1000, 1000, 1000, 'c')")
                .refuses(Story.ARGUMENT, "addAgent(0, 0, 9, 'b')", "addAgent(0, 0, 9, 'd')", "addAgent(0, 0, 9, 'e')", "addAgent(0, 0, 9, 'g')",
                        "addAgent(0, 0, 9, 'F')", "addAgent(0, 0, 9, 'C')", "addAgent(0, 0, 9, c0)", "addAgent(0, 0, 9, c65535)",
                        "addAgent(0, 0, 9, c358)", "addAgent(0, 0, 9, c355)")
                .answers("addAgent(2, 2, 5, 'f')", 2).answers("addAgent(5, 2, 5, 'c')", 3);
        Story.promise(45, "Throws `IllegalStateException` if there are 4 agents")
                .after(Story.repeated("addAgent(#, 0, 9, 'f')", 0, 2)).answers("addAgent(3, 0, 9, 'c')", 3)
                .refuses(Story.STATE, "addAgent(4, 0, 9, 'f')", "addAgent(4, 0, 9, 'c')").refuses(Story.INDEX, "errors(4)").answers("errors(3)", 0);
        Story.listedFirst(45).after(Story.repeated("addAgent(#, 0, 9, 'f')", 0, 3))
                .refuses(Story.ARGUMENT, "addAgent(10, 0, 9, 'f')", "addAgent(0, 0, 1000, 'f')", "addAgent(0, 0, 9, 'x')", "addAgent(-1, 0, 9, 'c')")
                .refuses(Story.STATE, "addAgent(9, 0, 9, 'c')");
    }

    private static void send() {
        Story.promise(46, "Sends a number to an agent: at once, or when the transaction commits.")
                .after("addAgent(0, -99, 99, 'c')", "begin(0)").answers("send(0, 0, 7)", 0).refuses(Story.MISSING, "act(0)").answers("send(-1, 0, 3)", 1)
                .answers("act(0)", 3).refuses(Story.MISSING, "act(0)").answers("commit(0)", 'c').answers("act(0)", 10);
        Story.promise(46, "- `transaction`: the transaction in which it is sent, or -1 for none")
                .after("addAgent(0, -99, 99, 'c')").answers("send(-1, 0, 1)", 1).answersEach(0, "begin(0)", "begin(2)").answers("send(0, 0, 2)", 1)
                .answers("send(2, 0, 4)", 1).refuses(Story.ARGUMENT, "send(-2, 0, 1)", "send(3, 0, 1)").answers("commit(2)", 'c').answers("act(0)", 1)
                .answers("act(0)", 5).answers("commit(0)", 'c').answers("act(0)", 7).refuses(Story.MISSING, "act(0)");
        Story.promise(46, "- `number`: the number, -99 to 99")
                .after("addAgent(0, -999, 999, 'c')", "begin(1)").answers("send(-1, 0, -99)", 1).answers("send(-1, 0, 99)", 2)
                .refuses(Story.ARGUMENT, "send(-1, 0, -100)", "send(-1, 0, 100)", "send(1, 0, -100)", "send(1, 0, 100)")
                .answers("send(1, 0, -99)", 2).answers("send(1, 0, 99)", 2).answers("commit(1)", 'c').answers("act(0)", -99).answers("act(0)", 0)
                .answers("act(0)", -99).answers("act(0)", 0).refuses(Story.MISSING, "act(0)");
        Story waiting = Story.promise(46, "Returns how many numbers wait for the agent.")
                .after("addAgent(0, -999, 999, 'c')", "addAgent(0, -999, 999, 'c')", "begin(0)").answers("send(0, 0, 1)", 0);
        for (int i = 1; i <= 12; i++) {
            waiting.answers("send(-1, 0, 1)", i).answers("send(0, 0, 1)", i);
        }
        waiting.answers("send(-1, 0, 1)", 12).answers("send(0, 1, 1)", 0).answers("send(-1, 1, 1)", 1).answers("act(0)", 1).answers("send(0, 0, 1)", 11)
                .answers("send(-1, 0, 1)", 12).answers("commit(0)", 'c').answers("send(-1, 1, 1)", 3).answers("send(-1, 0, 1)", 12);
    }

    private static void sendRefuses() {
        Story.promise(46, "Throws `IllegalArgumentException` if there is no such transaction, and it is not -1, or the number is out of range")
                .after("addAgent(0, -99, 99, 'c')", "begin(0)", "begin(2)")
                .refuses(Story.ARGUMENT, "send(-2, 0, 1)", "send(3, 0, 1)", "send(MIN, 0, 1)", "send(MAX, 0, 1)", "send(-1, 0, 100)", "send(-1, 0, -100)",
                        "send(0, 0, 100)", "send(0, 0, -100)", "send(-1, 0, MAX)", "send(-1, 0, MIN)")
                .answers("send(-1, 0, 99)", 1).answers("send(0, 0, -99)", 1).answers("send(2, 0, 99)", 1);
        Story.promise(46, NO_AGENT)
                .refuses(Story.INDEX, "send(-1, 0, 1)").after("addAgent(0, -99, 99, 'c')", "begin(0)")
                .refuses(Story.INDEX, "send(-1, 1, 1)", "send(-1, -1, 1)", "send(0, 1, 1)", "send(0, -1, 1)", "send(-1, MAX, 1)", "send(0, MIN, 1)")
                .answers("send(0, 0, 1)", 0).answers("send(-1, 0, 1)", 1).after(Story.repeated("addAgent(0, 0, #, 'f')", 1, 3)).answers("send(-1, 3, 1)", 1)
                .refuses(Story.INDEX, "send(-1, 4, 1)", "send(0, 4, 1)");
        Story.promise(46, "Throws `IllegalStateException` if the transaction is not open")
                .after("addAgent(0, -99, 99, 'c')").refuses(Story.STATE, "send(0, 0, 1)", "send(1, 0, 1)", "send(2, 0, 1)").answers("send(-1, 0, 1)", 1)
                .after("begin(1)").answers("send(1, 0, 1)", 1).refuses(Story.STATE, "send(0, 0, 1)", "send(2, 0, 1)").after("commit(1)")
                .refuses(Story.STATE, "send(1, 0, 1)").after("begin(2)", "end(2)").refuses(Story.STATE, "send(2, 0, 1)").answers("send(-1, 0, 1)", 3);
        Story.listedFirst(46).after("addAgent(0, -99, 99, 'c')", "begin(0)")
                .refuses(Story.ARGUMENT, "send(3, 1, 1)", "send(-2, 1, 1)", "send(-1, 1, 100)", "send(0, -1, -100)", "send(1, 0, 100)", "send(2, 1, 100)",
                        "send(3, 0, 100)")
                .refuses(Story.INDEX, "send(1, 1, 1)", "send(2, -1, 1)", "send(-1, 1, 1)").refuses(Story.STATE, "send(1, 0, 1)");
    }

    private static void act() {
        Story.promise(47, "Lets an agent act.")
                .after("addAgent(5, 0, 9, 'c')", "send(-1, 0, 4)", "send(-1, 0, -9)").answers("act(0)", 9).answers("act(0)", 0)
                .refuses(Story.MISSING, "act(0)").answers("errors(0)", 0);
        for (char mode : new char[] {'c', 'f'}) {
            Story.promise(47, "Returns its value.")
                    .after("addAgent(5, 0, 9, '" + mode + "')", "send(-1, 0, 5)", "send(-1, 0, 0)").answers("act(0)", 5).answers("errors(0)", 1);
            Story.promise(47, "Returns its value.")
                    .after("addAgent(5, 0, 9, '" + mode + "')", "send(-1, 0, -6)").answers("act(0)", 5).answers("errors(0)", 1);
            Story.promise(47, "Returns its value.")
                    .after("addAgent(5, 0, 9, '" + mode + "')", "send(-1, 0, 4)", "send(-1, 0, -9)", "send(-1, 0, 0)").answers("act(0)", 9)
                    .answers("act(0)", 0).answers("act(0)", 0).answers("errors(0)", 0);
            Story.promise(47, "Returns its value.")
                    .after("addAgent(-999, -999, 999, '" + mode + "')", "send(-1, 0, 0)", "send(-1, 0, -1)").answers("act(0)", -999).answers("act(0)", -999)
                    .answers("errors(0)", 1);
            Story.promise(47, "Returns its value.")
                    .after("addAgent(999, -999, 999, '" + mode + "')", "send(-1, 0, -1)", "send(-1, 0, 1)", "send(-1, 0, 1)").answers("act(0)", 998)
                    .answers("act(0)", 999).answers("act(0)", 999).answers("errors(0)", 1);
        }
    }

    private static void actRefuses() {
        Story.promise(47, NO_AGENT)
                .refuses(Story.INDEX, "act(0)").after("addAgent(5, 0, 9, 'c')", "send(-1, 0, 1)")
                .refuses(Story.INDEX, "act(1)", "act(-1)", "act(MAX)", "act(MIN)").answers("act(0)", 6)
                .after(Story.repeated("addAgent(0, 0, #, 'f')", 1, 3)).after("send(-1, 3, 1)").answers("act(3)", 1).refuses(Story.INDEX, "act(4)");
        Story.promise(47, "Throws `NoSuchElementException` if no number waits for it")
                .after("addAgent(5, 0, 9, 'c')", "addAgent(5, 0, 9, 'c')").refuses(Story.MISSING, "act(0)").after("send(-1, 1, 1)")
                .refuses(Story.MISSING, "act(0)").after("send(-1, 0, 1)").answers("act(0)", 6).refuses(Story.MISSING, "act(0)").answers("act(1)", 6)
                .after("begin(0)", "send(0, 0, 1)").refuses(Story.MISSING, "act(0)").after("end(0)").refuses(Story.MISSING, "act(0)");
        Story.promise(47, "Throws `IllegalStateException` if it has failed")
                .after("addAgent(5, 0, 9, 'f')", "send(-1, 0, 5)", "send(-1, 0, 1)").answers("act(0)", 5).refuses(Story.STATE, "act(0)", "act(0)")
                .answers("errors(0)", 1).answers("beginAnew(0, 8)", 5).answers("act(0)", 9);
        Story.promise(47, "Throws `IllegalStateException` if it has failed")
                .after("addAgent(5, 0, 9, 'c')", "send(-1, 0, 5)", "send(-1, 0, 1)").answers("act(0)", 5).answers("act(0)", 6);
        Story.listedFirst(47).after("addAgent(5, 0, 9, 'f')", "send(-1, 0, 5)").answers("act(0)", 5).refuses(Story.MISSING, "act(0)")
                .refuses(Story.INDEX, "act(1)", "act(-1)").after("send(-1, 0, 1)").refuses(Story.STATE, "act(0)");
    }

    private static void beginAnew() {
        Story.promise(48, "Begins an agent anew that has failed; what waits for it stays.")
                .after("addAgent(5, 0, 9, 'f')", "send(-1, 0, 5)", "send(-1, 0, 3)", "send(-1, 0, -1)", "act(0)").refuses(Story.STATE, "act(0)")
                .answers("beginAnew(0, 0)", 5).answers("send(-1, 0, 2)", 3).answers("act(0)", 3).answers("act(0)", 2).answers("act(0)", 4)
                .refuses(Story.MISSING, "act(0)").refuses(Story.STATE, "beginAnew(0, 0)");
        Story.promise(48, "Returns the value before.")
                .after("addAgent(7, 0, 9, 'f')", "send(-1, 0, 1)", "send(-1, 0, 9)", "send(-1, 0, 9)").answers("act(0)", 8).answers("act(0)", 8)
                .answers("beginAnew(0, 1)", 8).answers("act(0)", 1).answers("beginAnew(0, 9)", 1).answers("errors(0)", 2);
    }

    private static void beginAnewRefuses() {
        Story.promise(48, NO_AGENT)
                .refuses(Story.INDEX, "beginAnew(0, 5)").after("addAgent(5, 0, 9, 'f')", "send(-1, 0, 5)", "act(0)")
                .refuses(Story.INDEX, "beginAnew(1, 5)", "beginAnew(-1, 5)", "beginAnew(MAX, 5)", "beginAnew(MIN, 5)").answers("beginAnew(0, 5)", 5);
        Story.promise(48, "Throws `IllegalArgumentException` if the value is not within its bounds")
                .after("addAgent(5, 2, 9, 'f')", "send(-1, 0, 9)", "send(-1, 0, 9)", "act(0)")
                .refuses(Story.ARGUMENT, "beginAnew(0, 1)", "beginAnew(0, 10)", "beginAnew(0, MIN)", "beginAnew(0, MAX)").answers("beginAnew(0, 2)", 5)
                .answers("act(0)", 2).answers("beginAnew(0, 9)", 2);
        Story.promise(48, "Throws `IllegalStateException` if it has not failed")
                .after("addAgent(5, 0, 9, 'f')", "addAgent(5, 0, 9, 'c')").refuses(Story.STATE, "beginAnew(0, 5)", "beginAnew(1, 5)")
                .after("send(-1, 0, 5)", "send(-1, 1, 5)").refuses(Story.STATE, "beginAnew(0, 5)").answers("act(0)", 5).answers("act(1)", 5)
                .refuses(Story.STATE, "beginAnew(1, 5)").answers("beginAnew(0, 0)", 5).refuses(Story.STATE, "beginAnew(0, 0)");
        Story.listedFirst(48).after("addAgent(5, 0, 9, 'f')").refuses(Story.INDEX, "beginAnew(1, 10)", "beginAnew(-1, -1)", "beginAnew(1, 5)")
                .refuses(Story.ARGUMENT, "beginAnew(0, 10)", "beginAnew(0, -1)").refuses(Story.STATE, "beginAnew(0, 9)", "beginAnew(0, 0)");
    }

    private static void errors() {
        Story.promise(49, "Returns how many errors an agent had.")
                .after("addAgent(5, 0, 9, 'c')", "addAgent(5, 0, 9, 'f')", "send(-1, 0, 5)", "send(-1, 0, 1)", "send(-1, 0, -7)", "send(-1, 1, 9)")
                .answers("errors(0)", 0).after("act(0)").answers("errors(0)", 1).after("act(0)").answers("errors(0)", 1).after("act(0)")
                .answers("errors(0)", 2).answers("errors(1)", 0).after("act(1)").answers("errors(1)", 1).after("beginAnew(1, 5)").answers("errors(1)", 1);
        Story many = Story.promise(49, "Returns their number.").after("addAgent(5, 0, 9, 'c')");
        for (int i = 1; i <= 30; i++) {
            many.after("send(-1, 0, 99)", "act(0)").answers("errors(0)", i);
        }
        Story.promise(49, NO_AGENT)
                .refuses(Story.INDEX, "errors(0)").after("addAgent(5, 0, 9, 'c')").refuses(Story.INDEX, "errors(1)", "errors(-1)", "errors(MAX)", "errors(MIN)")
                .answers("errors(0)", 0).after(Story.repeated("addAgent(0, 0, #, 'f')", 1, 3)).answers("errors(3)", 0).refuses(Story.INDEX, "errors(4)");
    }

    private static void numbers() {
        Story.term("Agents", "45", "At most 4 agents are numbered from 0.")
                .refuses(Story.INDEX, "errors(0)").answers("addAgent(0, 0, 9, 'f')", 0).answers("addAgent(0, 0, 9, 'c')", 1)
                .answers("addAgent(0, 0, 9, 'f')", 2).refuses(Story.INDEX, "errors(3)").answers("addAgent(0, 0, 9, 'c')", 3)
                .refuses(Story.STATE, "addAgent(0, 0, 9, 'f')").refuses(Story.INDEX, "errors(4)", "errors(-1)").answers("errors(3)", 0);
    }

    private static void rows() {
        Story full = Story.term("Agents", "46, 47", ROW).after("addAgent(-999, -999, 999, 'c')", "addAgent(999, -999, 999, 'f')");
        for (int i = 1; i <= 12; i++) {
            full.answers("send(-1, 0, " + i + ")", i);
        }
        full.answers("send(-1, 0, 99)", 12).answers("send(-1, 0, 99)", 12);
        int value = -999;
        for (int i = 1; i <= 12; i++) {
            value += i;
            full.answers("act(0)", value);
        }
        full.refuses(Story.MISSING, "act(0)").answers("errors(0)", 0);
        for (int waiting = 9; waiting <= 12; waiting++) {
            Story story = Story.term("Agents", "36, 46, 47", ROW).after("addAgent(0, -999, 999, 'c')", "begin(0)").after(Story.repeated("send(-1, 0, #)", 1, waiting))
                    .answers("send(0, 0, 50)", waiting).answers("send(0, 0, 60)", waiting).answers("commit(0)", 'c');
            int sum = 0;
            for (int i = 1; i <= waiting; i++) {
                sum += i;
                story.answers("act(0)", sum);
            }
            if (waiting < 12) {
                story.answers("act(0)", sum + 50);
            }
            if (waiting < 11) {
                story.answers("act(0)", sum + 110);
            }
            story.refuses(Story.MISSING, "act(0)");
        }
        Story sent = Story.term("Agents", "36, 46, 47", ROW).after("addAgent(0, -999, 999, 'c')", "addAgent(0, -999, 999, 'c')", "begin(0)")
                .after(Story.repeated("send(0, 0, #)", 1, 14)).answers("send(0, 1, 7)", 0).answers("commit(0)", 'c').answers("send(-1, 0, 99)", 12);
        for (int i = 1; i <= 12; i++) {
            sent.answers("act(0)", i * (i + 1) / 2);
        }
        sent.refuses(Story.MISSING, "act(0)").answers("act(1)", 7);
        Story again = Story.term("Agents", "46, 47", ROW).after("addAgent(0, -999, 999, 'c')").after(Story.repeated("send(-1, 0, #)", 1, 12)).answers("act(0)", 1)
                .answers("send(-1, 0, 50)", 12).answers("send(-1, 0, 60)", 12).after(Story.repeated("act(0)", 2, 12)).answers("act(0)", 128);
        again.refuses(Story.MISSING, "act(0)");
    }

    private static void firstLeaves() {
        String said = "When it acts, the first number leaves the row and is added to its value.";
        Story.term("Agents", "46, 47", said)
                .after("addAgent(0, -99, 99, 'c')", "send(-1, 0, 3)", "send(-1, 0, -5)", "send(-1, 0, 8)").answers("act(0)", 3).answers("send(-1, 0, 1)", 3)
                .answers("act(0)", -2).answers("act(0)", 6).answers("act(0)", 7).refuses(Story.MISSING, "act(0)");
        Story.term("Agents", "46, 47", said)
                .after("addAgent(99, -99, 99, 'c')", "send(-1, 0, 1)", "send(-1, 0, -1)").answers("act(0)", 99).answers("send(-1, 0, 1)", 2)
                .answers("act(0)", 98).answers("act(0)", 99).refuses(Story.MISSING, "act(0)");
    }

    private static void failing() {
        String said = "If the value would be out of its bounds, it stays, which is an error; with 'f', the agent has failed then and does not act until "
                + "it is begun anew.";
        for (int sign = -1; sign <= 1; sign += 2) {
            Story.term("Agents", "47 to 49", said)
                    .after("addAgent(0, -9, 9, 'f')", "send(-1, 0, " + 9 * sign + ")", "send(-1, 0, " + sign + ")", "send(-1, 0, 0)").answers("act(0)", 9 * sign)
                    .answers("errors(0)", 0).answers("act(0)", 9 * sign).answers("errors(0)", 1).refuses(Story.STATE, "act(0)").answers("send(-1, 0, 1)", 2)
                    .answers("beginAnew(0, " + -9 * sign + ")", 9 * sign).answers("act(0)", -9 * sign).answers("errors(0)", 1);
            Story.term("Agents", "47 to 49", said)
                    .after("addAgent(0, -9, 9, 'c')", "send(-1, 0, " + 9 * sign + ")", "send(-1, 0, " + sign + ")", "send(-1, 0, " + sign + ")",
                            "send(-1, 0, " + -sign + ")").answers("act(0)", 9 * sign).answers("act(0)", 9 * sign).answers("errors(0)", 1)
                    .refuses(Story.STATE, "beginAnew(0, 0)").answers("act(0)", 9 * sign).answers("errors(0)", 2).answers("act(0)", 8 * sign)
                    .answers("errors(0)", 2);
        }
    }
}
