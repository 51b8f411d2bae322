import java.util.NoSuchElementException;

/** Promises 45 to 49: agents. */
public final class AgentsTest {
    private static final Class<IndexOutOfBoundsException> INDEX = IndexOutOfBoundsException.class;
    private static final Class<IllegalArgumentException> ARGUMENT = IllegalArgumentException.class;
    private static final Class<NoSuchElementException> MISSING = NoSuchElementException.class;
    private static final Class<IllegalStateException> STATE = IllegalStateException.class;

    private AgentsTest() {
    }

    public static void main(String[] args) {
        addAgent();
        send();
        sendInTransaction();
        act();
        failAndBeginAnew();
        errors();
        Check.finish();
    }

    private static void addAgent() {
        PersistentParlour p = new PersistentParlour();
        Check.same("first", p.addAgent(-999, -999, 999, 'f'), 0);
        Check.same("second", p.addAgent(999, 999, 999, 'c'), 1);
        int[][] wrong = {{0, -1000, 9}, {0, 0, 1000}, {-1, 0, 9}, {10, 0, 9}, {5, 9, 0}};
        for (int[] one : wrong) {
            Check.refuses("wrong bounds", ARGUMENT, () -> p.addAgent(one[0], one[1], one[2], 'f'));
        }
        char[] modes = {'a', 'F', ' ', 0};
        for (char mode : modes) {
            Check.refuses("mode " + (int) mode, ARGUMENT, () -> p.addAgent(0, 0, 9, mode));
        }
        p.addAgent(0, 0, 0, 'c');
        Check.same("fourth", p.addAgent(0, 0, 0, 'f'), 3);
        Check.refuses("4 agents, no mode", ARGUMENT, () -> p.addAgent(0, 0, 0, 'x'));
        Check.refuses("4 agents", STATE, () -> p.addAgent(0, 0, 0, 'f'));
    }

    private static void send() {
        PersistentParlour p = new PersistentParlour();
        p.addAgent(0, -999, 999, 'c');
        p.addAgent(0, -999, 999, 'c');
        for (int i = 1; i <= 12; i++) {
            Check.same("waiting", p.send(-1, 0, i), i);
        }
        Check.same("what is more is lost", p.send(-1, 0, 13), 12);
        Check.same("the other one", p.send(-1, 1, -99), 1);
        Check.same("and more", p.send(-1, 1, 99), 2);
        Check.same("the first of its row", p.act(1), -99);
        int sum = 0;
        for (int i = 1; i <= 12; i++) {
            sum += i;
            Check.same("in their order", p.act(0), sum);
        }
        Check.refuses("no 13th", MISSING, () -> p.act(0));
        Check.refuses("transaction -2", ARGUMENT, () -> p.send(-2, 9, 0));
        Check.refuses("transaction 3", ARGUMENT, () -> p.send(3, 0, 0));
        Check.refuses("100", ARGUMENT, () -> p.send(-1, 9, 100));
        Check.refuses("-100", ARGUMENT, () -> p.send(0, 0, -100));
        Check.refuses("agent 2", INDEX, () -> p.send(0, 2, 0));
        Check.refuses("agent -1", INDEX, () -> p.send(-1, -1, 0));
        Check.refuses("not open", STATE, () -> p.send(0, 0, 0));
    }

    private static void sendInTransaction() {
        PersistentParlour p = new PersistentParlour();
        p.addAgent(0, -999, 999, 'c');
        p.addAgent(0, -999, 999, 'c');
        p.begin(0);
        p.begin(1);
        p.send(-1, 0, 1);
        Check.same("does not wait yet", p.send(0, 0, 2), 1);
        Check.same("another agent", p.send(0, 1, 20), 0);
        Check.same("another transaction", p.send(1, 0, 4), 1);
        for (int i = 0; i < 12; i++) {
            p.send(0, 0, 3);
        }
        Check.same("at once", p.send(-1, 0, 5), 2);
        Check.same("ended", p.end(1), 0);
        Check.same("committed", p.commit(0), 'c');
        Check.same("what is more is lost", p.send(-1, 0, 99), 12);
        int[] due = {1, 6, 8, 11, 14, 17, 20, 23, 26, 29, 32, 35};
        for (int value : due) {
            Check.same("in its order", p.act(0), value);
        }
        Check.same("the other agent", p.act(1), 20);
        Check.refuses("no more", MISSING, () -> p.act(1));
    }

    private static void act() {
        PersistentParlour p = new PersistentParlour();
        p.addAgent(5, 0, 9, 'c');
        Check.refuses("agent 1", INDEX, () -> p.act(1));
        Check.refuses("agent -1", INDEX, () -> p.act(-1));
        Check.refuses("nothing waits", MISSING, () -> p.act(0));
        int[] sent = {4, 1, -9, -1, 3};
        int[] due = {9, 9, 0, 0, 3};
        for (int number : sent) {
            p.send(-1, 0, number);
        }
        for (int value : due) {
            Check.same("value", p.act(0), value);
        }
        Check.same("errors", p.errors(0), 2);
    }

    private static void failAndBeginAnew() {
        PersistentParlour p = new PersistentParlour();
        p.addAgent(5, 0, 9, 'f');
        p.addAgent(5, 0, 9, 'c');
        Check.refuses("agent 2", INDEX, () -> p.beginAnew(2, 10));
        Check.refuses("has not failed, 10", ARGUMENT, () -> p.beginAnew(0, 10));
        Check.refuses("has not failed", STATE, () -> p.beginAnew(0, 5));
        p.send(-1, 0, 99);
        p.send(-1, 0, 1);
        p.send(-1, 1, 99);
        Check.same("an error", p.act(0), 5);
        Check.same("an error with c", p.act(1), 5);
        Check.refuses("failed", STATE, () -> p.act(0));
        Check.refuses("c does not fail", MISSING, () -> p.act(1));
        Check.refuses("so it is not begun anew", STATE, () -> p.beginAnew(1, 5));
        Check.same("it can be sent more", p.send(-1, 0, 2), 2);
        Check.refuses("-1", ARGUMENT, () -> p.beginAnew(0, -1));
        Check.same("value before", p.beginAnew(0, 7), 5);
        Check.refuses("only once", STATE, () -> p.beginAnew(0, 7));
        Check.same("what waits stays", p.act(0), 8);
        Check.same("out of bounds again", p.act(0), 8);
        Check.refuses("failed, but nothing waits", MISSING, () -> p.act(0));
    }

    private static void errors() {
        PersistentParlour p = new PersistentParlour();
        p.addAgent(5, 0, 9, 'f');
        Check.same("none", p.errors(0), 0);
        for (int i = 1; i <= 3; i++) {
            p.send(-1, 0, 50);
            p.act(0);
            Check.same("errors", p.errors(0), i);
            p.beginAnew(0, 0);
            Check.same("begun anew they stay", p.errors(0), i);
        }
        Check.refuses("agent 1", INDEX, () -> p.errors(1));
        Check.refuses("agent -1", INDEX, () -> p.errors(-1));
    }
}
