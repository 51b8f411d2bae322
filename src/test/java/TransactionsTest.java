/** Promises 30 to 44: references, transactions and the log. */
public final class TransactionsTest {
    private static final Class<IndexOutOfBoundsException> INDEX = IndexOutOfBoundsException.class;
    private static final Class<IllegalArgumentException> ARGUMENT = IllegalArgumentException.class;
    private static final Class<UnsupportedOperationException> UNSUPPORTED = UnsupportedOperationException.class;
    private static final Class<IllegalStateException> STATE = IllegalStateException.class;
    private static final int BACK = -10000;

    private TransactionsTest() {
    }

    public static void main(String[] args) {
        addReference();
        begin();
        read();
        readBehindTheHistory();
        write();
        writeAgainstOthers();
        writeSendsSeveralBack();
        ensure();
        ensureAgainstOthers();
        add();
        commit();
        commitAgainstOthers();
        commitOutOfBounds();
        commitOfNothing();
        sentBackForgetsAll();
        endAndSentBack();
        valueOfAndByLog();
        history();
        logged();
        Check.finish();
    }

    /** Three references with the value 5 from -999 to 999, and the transactions 0, 1 and 2, of which 0 is the oldest. */
    private static PersistentParlour begun() {
        PersistentParlour p = new PersistentParlour();
        for (int i = 0; i < 3; i++) {
            p.addReference(5, -999, 999);
            p.begin(i);
        }
        return p;
    }

    private static void commitValue(PersistentParlour p, int transaction, int reference, int value) {
        p.begin(transaction);
        Check.same("written", p.write(transaction, reference, value), true);
        Check.same("committed", p.commit(transaction), 'c');
    }

    private static void addReference() {
        PersistentParlour p = new PersistentParlour();
        Check.same("first", p.addReference(-999, -999, 999), 0);
        Check.same("second", p.addReference(999, 999, 999), 1);
        Check.same("value", p.valueOf(1), 999);
        int[][] wrong = {{0, -1000, 9}, {0, 0, 1000}, {-1, 0, 9}, {10, 0, 9}, {5, 9, 0}, {-1000, -1000, 0}};
        for (int[] one : wrong) {
            Check.refuses("wrong bounds", ARGUMENT, () -> p.addReference(one[0], one[1], one[2]));
        }
        for (int i = 2; i < 6; i++) {
            Check.same("number", p.addReference(0, 0, 0), i);
        }
        Check.refuses("6 references, wrong bounds", ARGUMENT, () -> p.addReference(1, 0, 0));
        Check.refuses("6 references", STATE, () -> p.addReference(0, 0, 0));
        PersistentParlour late = begun();
        late.end(1);
        commitValue(late, 1, 0, 6);
        int added = late.addReference(4, 0, 9);
        Check.same("its value came in the moment 0", late.read(0, added), 4);
        Check.same("so it can be written", late.write(0, added, 3), true);
    }

    private static void begin() {
        PersistentParlour p = new PersistentParlour();
        p.addReference(0, 0, 9);
        Check.same("point", p.begin(2), 0);
        Check.refuses("open", STATE, () -> p.begin(2));
        commitValue(p, 0, 0, 1);
        Check.same("a later point", p.begin(0), 1);
        Check.refuses("transaction 3", ARGUMENT, () -> p.begin(3));
        Check.refuses("transaction -1", ARGUMENT, () -> p.begin(-1));
        Check.same("the first is older", p.add(2, 0, 1), true);
        Check.same("written by the younger", p.write(0, 0, 2), true);
        Check.same("the older one commits", p.commit(2), 'c');
        Check.same("the younger one is sent back", p.sentBack(0), 1);
    }

    private static void read() {
        PersistentParlour p = begun();
        Check.same("value", p.read(0, 0), 5);
        p.add(0, 0, 7);
        Check.same("with what it adds", p.read(0, 0), 12);
        p.write(0, 1, 9);
        Check.same("its own", p.read(0, 1), 9);
        Check.same("not another's", p.read(1, 1), 5);
        p.add(0, 1, 1);
        Check.same("its own with more", p.read(0, 1), 10);
        Check.same("committed", p.commit(0), 'c');
        Check.same("as of its point", p.read(1, 1), 5);
        Check.same("not sent back", p.sentBack(1), 0);
        p.begin(0);
        Check.same("now", p.read(0, 1), 10);
        Check.refuses("transaction 3", ARGUMENT, () -> p.read(3, 9));
        Check.refuses("reference 3", INDEX, () -> p.read(0, 3));
        p.end(0);
        Check.refuses("reference -1, not open", INDEX, () -> p.read(0, -1));
        Check.refuses("not open", STATE, () -> p.read(0, 0));
    }

    private static void readBehindTheHistory() {
        PersistentParlour p = begun();
        p.end(0);
        commitValue(p, 0, 0, 6);
        Check.same("one later value", p.read(1, 0), 5);
        commitValue(p, 0, 0, 7);
        p.write(1, 1, 8);
        Check.same("two later values", p.read(1, 0), BACK);
        Check.same("sent back", p.sentBack(1), 1);
        Check.same("its point is now", p.read(1, 0), 7);
        Check.same("what it wrote is gone", p.read(1, 1), 5);
        Check.same("history as it was", p.history(0), 2);
        commitValue(p, 0, 0, 8);
        Check.same("one more is kept", p.history(0), 3);
        commitValue(p, 0, 0, 9);
        Check.same("two later values are not too many now", p.read(1, 0), 7);
        Check.same("its own needs no history", p.write(2, 1, 1), true);
        Check.same("its own", p.read(2, 1), 1);
        commitValue(p, 0, 0, 10);
        Check.same("others' limits stay", p.history(1), 1);
    }

    private static void write() {
        PersistentParlour p = begun();
        Check.same("999", p.write(0, 0, 999), true);
        Check.same("-999", p.write(0, 0, -999), true);
        Check.same("again", p.read(0, 0), -999);
        p.add(0, 1, 0);
        p.add(0, 0, 1);
        Check.same("what was written can be written again", p.write(0, 0, 1), true);
        Check.refuses("transaction -1", ARGUMENT, () -> p.write(-1, 9, 1000));
        Check.refuses("reference 3", INDEX, () -> p.write(0, 3, 1000));
        Check.refuses("it adds 0 to it", UNSUPPORTED, () -> p.write(0, 1, 1));
        Check.refuses("1000", UNSUPPORTED, () -> p.write(0, 2, 1000));
        Check.refuses("-1000", UNSUPPORTED, () -> p.write(0, 2, -1000));
        Check.same("others' writing is not touched by that", p.write(1, 2, 1), true);
        Check.refuses("1000 against another", UNSUPPORTED, () -> p.write(0, 2, 1000));
        Check.same("that one goes on", p.sentBack(1), 0);
        Check.same("committed", p.commit(0), 'c');
        Check.refuses("not open, 1000", STATE, () -> p.write(0, 0, 1000));
        Check.same("a later value", p.write(1, 0, 2), false);
        Check.same("sent back", p.sentBack(1), 1);
        Check.same("not a second time", p.write(1, 0, 2), true);
    }

    private static void writeAgainstOthers() {
        PersistentParlour p = begun();
        p.write(0, 0, 1);
        Check.same("an older one has written it", p.write(1, 0, 2), false);
        Check.same("sent back", p.sentBack(1), 1);
        Check.same("the older one goes on", p.read(0, 0), 1);
        p.write(2, 1, 3);
        Check.same("a younger one has written it", p.write(1, 1, 2), true);
        Check.same("which is sent back", p.sentBack(2), 1);
        Check.same("and has nothing", p.read(2, 1), 5);
        p.ensure(2, 2);
        Check.same("a younger one has ensured it", p.write(1, 2, 1), true);
        Check.same("which is sent back again", p.sentBack(2), 2);
        p.ensure(0, 1);
        Check.same("it lost that one", p.sentBack(1), 2);
        Check.same("an older one has ensured it", p.write(1, 1, 2), false);
        p.add(0, 2, 1);
        Check.same("an older one adds to it", p.write(1, 2, 1), true);
    }

    private static void writeSendsSeveralBack() {
        PersistentParlour p = begun();
        p.ensure(1, 0);
        p.ensure(2, 0);
        Check.same("the oldest writes", p.write(0, 0, 1), true);
        Check.same("1 is sent back", p.sentBack(1), 1);
        Check.same("2 is sent back", p.sentBack(2), 1);
        PersistentParlour q = begun();
        q.end(0);
        q.begin(0);
        q.ensure(0, 0);
        q.ensure(2, 0);
        Check.same("the oldest, 1, writes", q.write(1, 0, 1), true);
        Check.same("0 is sent back", q.sentBack(0), 1);
        Check.same("2 is sent back, too", q.sentBack(2), 1);
        PersistentParlour r = begun();
        r.end(0);
        r.begin(0);
        r.ensure(0, 0);
        r.ensure(1, 0);
        Check.same("2 is between them", r.write(2, 0, 1), false);
        Check.same("the younger 0 was sent back first", r.sentBack(0), 1);
        Check.same("then 2 itself", r.sentBack(2), 1);
        Check.same("and 1 stays", r.sentBack(1), 0);
        PersistentParlour s = begun();
        s.ensure(0, 0);
        s.ensure(2, 0);
        Check.same("1 is between them", s.write(1, 0, 1), false);
        Check.same("sent back at the older one", s.sentBack(1), 1);
        Check.same("so the younger one goes on", s.sentBack(2), 0);
    }

    private static void ensure() {
        PersistentParlour p = begun();
        Check.same("ensured", p.ensure(0, 0), true);
        Check.same("twice", p.ensure(0, 0), true);
        Check.same("by another, too", p.ensure(1, 0), true);
        Check.same("its own can be written when it is the oldest", p.write(0, 0, 1), true);
        Check.refuses("transaction 3", ARGUMENT, () -> p.ensure(3, 3));
        Check.refuses("reference 3", INDEX, () -> p.ensure(0, 3));
        p.commit(0);
        Check.refuses("reference -1, not open", INDEX, () -> p.ensure(0, -1));
        Check.refuses("not open", STATE, () -> p.ensure(0, 0));
        Check.same("a later value", p.ensure(2, 0), false);
        Check.same("sent back", p.sentBack(2), 1);
        Check.same("then it goes", p.ensure(2, 0), true);
        commitValue(p, 0, 1, 9);
        Check.same("committed beside", p.moment(), 2);
        Check.same("ensured is not changed", p.commit(2), 'c');
        Check.same("no moment for that", p.moment(), 2);
    }

    private static void ensureAgainstOthers() {
        PersistentParlour p = begun();
        p.write(0, 0, 1);
        p.write(2, 1, 1);
        Check.same("an older one has written it", p.ensure(1, 0), false);
        Check.same("a younger one has written it", p.ensure(1, 1), true);
        Check.same("which is sent back", p.sentBack(2), 1);
        Check.same("1 is still younger than 0", p.write(0, 1, 2), true);
        Check.same("and is sent back twice", p.sentBack(1), 2);
        p.end(0);
        Check.same("what has ended does not matter", p.ensure(1, 0), true);
    }

    private static void add() {
        PersistentParlour p = begun();
        Check.same("added", p.add(0, 0, 99), true);
        Check.same("and more", p.add(0, 0, -98), true);
        Check.same("read", p.read(0, 0), 6);
        p.write(1, 1, 950);
        Check.same("to what it has written", p.add(1, 1, 49), true);
        Check.same("that is its own", p.read(1, 1), 999);
        Check.refuses("written would be 1000", UNSUPPORTED, () -> p.add(1, 1, 1));
        Check.same("which stays", p.read(1, 1), 999);
        for (int i = 0; i < 10; i++) {
            p.add(2, 2, -99);
        }
        Check.refuses("added would be -1000", UNSUPPORTED, () -> p.add(2, 2, -10));
        Check.same("added -999", p.add(2, 2, -9), true);
        Check.same("read with it", p.read(2, 2), 5 - 999);
        Check.same("another's writing does not matter", p.add(2, 1, 1), true);
        Check.same("neither sent back", p.sentBack(1) + p.sentBack(2), 0);
        Check.refuses("transaction 3", ARGUMENT, () -> p.add(3, 3, 100));
        Check.refuses("reference 3", INDEX, () -> p.add(0, 3, 100));
        Check.refuses("100", UNSUPPORTED, () -> p.add(0, 0, 100));
        Check.refuses("-100", UNSUPPORTED, () -> p.add(0, 0, -100));
        Check.same("committed", p.commit(0), 'c');
        Check.refuses("not open, 100", STATE, () -> p.add(0, 0, 100));
        Check.same("a later value does not matter", p.add(2, 0, 1), true);
        Check.same("to add to it", p.read(2, 0), 6);
        p.end(1);
        Check.same("committed, too", p.commit(2), 'c');
        Check.same("both have added", p.valueOf(0), 7);
        Check.same("the least sum", p.valueOf(2), 5 - 999);
    }

    private static void commit() {
        PersistentParlour p = begun();
        p.add(1, 0, 3);
        p.add(2, 0, 4);
        p.write(1, 2, -3);
        Check.same("first", p.commit(1), 'c');
        Check.same("second, to the value that came last", p.commit(2), 'c');
        Check.same("both", p.valueOf(0), 12);
        Check.same("written", p.valueOf(2), -3);
        Check.same("moment", p.moment(), 2);
        Check.refuses("not open", STATE, () -> p.commit(1));
        Check.refuses("transaction 3", ARGUMENT, () -> p.commit(3));
        p.begin(1);
        p.add(1, 1, 7);
        p.add(1, 1, -7);
        Check.same("numbers that come to 0", p.commit(1), 'c');
        Check.same("make a moment", p.moment(), 3);
        Check.same("and an entry", p.logged(), 4);
    }

    private static void commitAgainstOthers() {
        PersistentParlour p = begun();
        p.write(2, 0, 9);
        p.ensure(2, 1);
        p.add(1, 0, 1);
        Check.same("a younger one has written it", p.commit(1), 'c');
        Check.same("which is sent back", p.sentBack(2), 1);
        p.begin(1);
        p.ensure(0, 1);
        p.add(1, 1, 1);
        Check.same("an older one has ensured it", p.commit(1), 's');
        Check.same("sent back", p.sentBack(1), 1);
        Check.same("the value stays", p.valueOf(1), 5);
        p.write(0, 2, 1);
        p.add(2, 2, 1);
        p.add(2, 1, 1);
        p.ensure(1, 1);
        Check.same("an older one at the reference 1 already", p.commit(2), 's');
        Check.same("so the younger one at 1 goes on", p.sentBack(1), 0 + 1);
        p.end(0);
        p.add(2, 1, 1);
        Check.same("the younger one that ensured", p.commit(2), 'c');
        Check.same("is sent back", p.sentBack(1), 2);
        Check.same("committed", p.valueOf(1), 6);
    }

    private static void commitOutOfBounds() {
        PersistentParlour p = new PersistentParlour();
        p.addReference(5, 0, 9);
        p.addReference(5, 0, 9);
        p.addAgent(0, -9, 9, 'c');
        p.begin(0);
        p.begin(1);
        p.write(0, 0, 6);
        p.add(0, 1, 5);
        p.send(0, 0, 1);
        p.ensure(1, 1);
        Check.same("added out of bounds", p.commit(0), 'b');
        Check.same("the other one is sent back all the same", p.sentBack(1), 1);
        Check.same("nothing is written", p.valueOf(0), 5);
        Check.same("no moment", p.moment(), 0);
        Check.same("no entry", p.logged(), 0);
        Check.same("nothing is sent", p.send(-1, 0, 0), 1);
        Check.refuses("it has ended", STATE, () -> p.end(0));
        p.write(1, 0, -1);
        Check.same("written out of bounds", p.commit(1), 'b');
        p.begin(1);
        p.write(1, 0, 9);
        p.add(1, 1, -5);
        Check.same("at the bounds", p.commit(1), 'c');
        Check.same("greatest", p.valueOf(0), 9);
        Check.same("least", p.valueOf(1), 0);
    }

    private static void commitOfNothing() {
        PersistentParlour p = begun();
        p.addAgent(0, -9, 9, 'c');
        p.send(0, 0, 4);
        p.read(0, 0);
        p.ensure(0, 0);
        Check.same("nothing written", p.commit(0), 'c');
        Check.same("no moment", p.moment(), 0);
        Check.same("but sent", p.act(0), 4);
        p.begin(0);
        p.write(0, 0, 5);
        Check.same("the same value", p.commit(0), 'c');
        Check.same("is a moment", p.moment(), 1);
        Check.same("and logged", p.logAt(0, 3), 5);
        Check.same("and in the history", p.history(0), 2);
    }

    private static void sentBackForgetsAll() {
        PersistentParlour p = begun();
        p.addAgent(0, -99, 99, 'c');
        p.write(2, 0, 8);
        p.ensure(2, 1);
        p.add(2, 2, 9);
        p.send(2, 0, 7);
        p.write(0, 0, 1);
        Check.same("sent back", p.sentBack(2), 1);
        Check.same("added is gone", p.read(2, 2), 5);
        Check.same("ensured is gone", p.write(0, 1, 1), true);
        Check.same("not sent back again", p.sentBack(2), 1);
        Check.same("it can write what it added to", p.write(2, 2, 6), true);
        Check.same("committed", p.commit(2), 'c');
        Check.same("sent is gone", p.send(-1, 0, 1), 1);
    }

    private static void endAndSentBack() {
        PersistentParlour p = begun();
        Check.same("never", p.sentBack(1), 0);
        p.write(0, 0, 1);
        p.write(1, 0, 1);
        p.write(1, 0, 1);
        Check.same("twice", p.sentBack(1), 2);
        Check.same("end", p.end(1), 2);
        Check.same("of the last time", p.sentBack(1), 2);
        Check.refuses("ended", STATE, () -> p.end(1));
        p.begin(1);
        Check.same("begun again", p.sentBack(1), 0);
        Check.same("end", p.end(0), 0);
        Check.same("nothing of it is done", p.valueOf(0), 5);
        Check.same("and it bars nobody", p.write(1, 0, 3), true);
        Check.refuses("end of 3", ARGUMENT, () -> p.end(3));
        Check.refuses("sentBack of 3", ARGUMENT, () -> p.sentBack(3));
        Check.refuses("sentBack of -1", ARGUMENT, () -> p.sentBack(-1));
        Check.same("of one that never began", new PersistentParlour().sentBack(2), 0);
    }

    private static void valueOfAndByLog() {
        PersistentParlour p = new PersistentParlour();
        p.addReference(1, -99, 99);
        p.addReference(2, -99, 99);
        Check.same("by an empty log", p.valueByLog(1), 2);
        for (int i = 0; i < 9; i++) {
            p.begin(0);
            p.add(0, 1, i % 2 == 0 ? 5 : -4);
            Check.same("not yet", p.valueOf(1), i % 2 == 0 ? 2 + i / 2 : 7 + i / 2);
            p.commit(0);
            Check.same("by the log", p.valueByLog(1), p.valueOf(1));
        }
        Check.same("in the end", p.valueOf(1), 9 + 2);
        Check.same("the other one", p.valueByLog(0), 1);
        Check.refuses("valueOf of 2", INDEX, () -> p.valueOf(2));
        Check.refuses("valueOf of -1", INDEX, () -> p.valueOf(-1));
        Check.refuses("valueByLog of 2", INDEX, () -> p.valueByLog(2));
        Check.refuses("valueByLog of -1", INDEX, () -> p.valueByLog(-1));
    }

    private static void history() {
        PersistentParlour p = new PersistentParlour();
        p.addReference(0, 0, 999);
        Check.same("one", p.history(0), 1);
        commitValue(p, 0, 0, 1);
        Check.same("two", p.history(0), 2);
        commitValue(p, 0, 0, 2);
        Check.same("two at first", p.history(0), 2);
        for (int limit = 2; limit <= 10; limit++) {
            p.begin(1);
            for (int i = 0; i < 9; i++) {
                commitValue(p, 0, 0, limit * 10 + i);
            }
            Check.same("history " + limit, p.history(0), Math.min(limit, 8));
            Check.same("read " + limit, p.read(1, 0), BACK);
            p.end(1);
        }
        Check.refuses("reference 1", INDEX, () -> p.history(1));
        Check.refuses("reference -1", INDEX, () -> p.history(-1));
    }

    private static void logged() {
        PersistentParlour p = begun();
        p.write(0, 2, 8);
        p.add(0, 1, -1);
        p.commit(0);
        p.write(1, 0, 7);
        p.commit(1);
        Check.same("entries", p.logged(), 3);
        int[][] due = {{1, 1, 5, 4}, {1, 2, 5, 8}, {2, 0, 5, 7}};
        for (int entry = 0; entry < 3; entry++) {
            for (int what = 0; what < 4; what++) {
                Check.same("entry " + entry + ", " + what, p.logAt(entry, what), due[entry][what]);
            }
        }
        Check.same("moment", p.moment(), 2);
        Check.refuses("entry 3", INDEX, () -> p.logAt(3, 4));
        Check.refuses("entry -1", INDEX, () -> p.logAt(-1, 0));
        Check.refuses("what 4", ARGUMENT, () -> p.logAt(0, 4));
        Check.refuses("what -1", ARGUMENT, () -> p.logAt(0, -1));
    }
}
