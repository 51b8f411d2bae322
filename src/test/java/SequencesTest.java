import java.util.NoSuchElementException;

/** Promises 23 to 29: sequences and what is realised of them. */
public final class SequencesTest {
    private static final Class<IndexOutOfBoundsException> INDEX = IndexOutOfBoundsException.class;
    private static final Class<IllegalArgumentException> ARGUMENT = IllegalArgumentException.class;
    private static final Class<UnsupportedOperationException> UNSUPPORTED = UnsupportedOperationException.class;
    private static final Class<NoSuchElementException> MISSING = NoSuchElementException.class;
    private static final Class<IllegalStateException> STATE = IllegalStateException.class;

    private SequencesTest() {
    }

    public static void main(String[] args) {
        range();
        over();
        ways();
        at();
        atOfFirstOnes();
        firstOnesAtTheEnd();
        firstOnesInAChain();
        firstOnesOfFirstOnes();
        firstOnesOfNone();
        division();
        all();
        realisedAndChunks();
        collect();
        collectRefuses();
        collectLooksAtEachElement();
        Check.finish();
    }

    private static void checkElements(PersistentParlour p, int sequence, int... due) {
        Check.same("number of elements of " + sequence, p.all(sequence), due.length);
        for (int i = 0; i < due.length; i++) {
            Check.same("element " + i + " of " + sequence, p.at(sequence, i), due[i]);
        }
    }

    private static void checkRealised(PersistentParlour p, int sequence, int chunks, int elements) {
        Check.same("chunks of " + sequence, p.chunks(sequence), chunks);
        Check.same("elements of " + sequence, p.realised(sequence), elements);
    }

    private static void range() {
        PersistentParlour p = new PersistentParlour();
        checkElements(p, p.range(-99, 9, 3), -99, -90, -81);
        checkElements(p, p.range(99, -9, 5), 99, 90, 81, 72, 63);
        checkElements(p, p.range(5, 0, 2), 5, 5);
        checkElements(p, p.range(0, 1, 0));
        Check.same("the last of 24", p.at(p.range(1, 1, 24), 23), 24);
        int[][] wrong = {{-100, 0, 1}, {100, 0, 1}, {0, -10, 1}, {0, 10, 1}, {0, 0, -1}, {0, 0, 25}};
        for (int[] one : wrong) {
            Check.refuses("a number out of range", ARGUMENT, () -> p.range(one[0], one[1], one[2]));
        }
        for (int i = 5; i < 12; i++) {
            Check.same("number", p.range(0, 0, 0), i);
        }
        Check.refuses("12 sequences, a wrong number", ARGUMENT, () -> p.range(100, 0, 0));
        Check.refuses("12 sequences", STATE, () -> p.range(0, 0, 0));
    }

    private static void over() {
        PersistentParlour p = new PersistentParlour();
        p.range(1, 1, 8);
        Check.refuses("no such sequence", INDEX, () -> p.over(1, 'x', 0));
        Check.refuses("sequence -1", INDEX, () -> p.over(-1, 'a', 0));
        char[] ways = {'a', 'd', 'k', 't'};
        int[] least = {-99, -99, 1, 0};
        for (int i = 0; i < ways.length; i++) {
            char way = ways[i];
            int tooLittle = least[i] - 1;
            Check.refuses(way + " with " + tooLittle, ARGUMENT, () -> p.over(0, way, tooLittle));
            Check.refuses(way + " with 100", ARGUMENT, () -> p.over(0, way, 100));
            p.over(0, way, least[i]);
            p.over(0, way, 99);
        }
        char[] noWays = {'b', 'A', 'r', ' ', 0, 255};
        for (char way : noWays) {
            Check.refuses("way " + (int) way, ARGUMENT, () -> p.over(0, way, 1));
        }
        Check.same("number", p.over(0, 'a', 1), 9);
        p.over(0, 'a', 1);
        p.over(0, 'a', 1);
        Check.refuses("12 sequences, no way", ARGUMENT, () -> p.over(0, 'b', 1));
        Check.refuses("12 sequences", STATE, () -> p.over(0, 'a', 1));
    }

    private static void ways() {
        PersistentParlour p = new PersistentParlour();
        int range = p.range(-3, 2, 6);
        checkElements(p, p.over(range, 'a', -4), -7, -5, -3, -1, 1, 3);
        checkElements(p, p.over(range, 'd', 10), -3, -10, 10, 3, 2, 1);
        checkElements(p, p.over(range, 'd', -10), 3, 10, -10, -3, -2, -1);
        checkElements(p, p.over(range, 'd', 0), 0, 0, 0, 0, 0, 0);
        checkElements(p, p.over(range, 'k', 3), -3, 3);
        checkElements(p, p.over(range, 't', 2), -3, -1);
        checkElements(p, p.over(range, 't', 99), -3, -1, 1, 3, 5, 7);
        checkElements(p, p.over(range, 't', 0));
        checkElements(p, p.over(p.range(-2, 1, 5), 'k', 2), -2, 0, 2);
    }

    private static void at() {
        PersistentParlour p = new PersistentParlour();
        int range = p.range(1, 1, 10);
        int more = p.over(range, 'a', 1);
        Check.same("element 4", p.at(more, 4), 6);
        checkRealised(p, more, 2, 8);
        checkRealised(p, range, 2, 8);
        Check.same("element 0", p.at(more, 0), 2);
        checkRealised(p, more, 2, 8);
        Check.refuses("element 10", MISSING, () -> p.at(more, 10));
        Check.refuses("element -1", MISSING, () -> p.at(more, -1));
        checkRealised(p, more, 2, 8);
        checkRealised(p, range, 2, 8);
        Check.refuses("no such sequence", INDEX, () -> p.at(2, -1));
        Check.refuses("sequence -1", INDEX, () -> p.at(-1, 0));
        int kept = p.over(range, 'k', 5);
        Check.same("behind an empty chunk", p.at(kept, 1), 10);
        checkRealised(p, kept, 3, 2);
        checkRealised(p, range, 3, 10);
    }

    private static void atOfFirstOnes() {
        PersistentParlour p = new PersistentParlour();
        int range = p.range(1, 1, 20);
        int kept = p.over(range, 'k', 3);
        int first = p.over(kept, 't', 4);
        Check.same("the first", p.at(first, 0), 3);
        checkRealised(p, first, 1, 1);
        checkRealised(p, kept, 1, 1);
        Check.same("the third", p.at(first, 2), 9);
        checkRealised(p, first, 3, 3);
        checkRealised(p, kept, 3, 4);
        Check.same("the last", p.at(first, 3), 12);
        checkRealised(p, first, 4, 4);
        checkRealised(p, kept, 3, 4);
        checkRealised(p, range, 3, 12);
    }

    private static void firstOnesAtTheEnd() {
        PersistentParlour p = new PersistentParlour();
        int range = p.range(1, 1, 12);
        int kept = p.over(range, 'k', 7);
        int exact = p.over(kept, 't', 1);
        Check.same("all of 1", p.all(exact), 1);
        checkRealised(p, kept, 2, 1);
        int more = p.over(kept, 't', 2);
        Check.same("all of 2", p.all(more), 1);
        checkRealised(p, more, 1, 1);
        checkRealised(p, kept, 3, 1);
        checkRealised(p, range, 3, 12);
        int other = p.over(p.range(1, 1, 12), 'k', 7);
        int last = p.over(other, 't', 2);
        Check.same("its only one", p.at(last, 0), 7);
        checkRealised(p, last, 1, 1);
        checkRealised(p, other, 2, 1);
        Check.refuses("another one", MISSING, () -> p.at(last, 1));
        checkRealised(p, other, 2, 1);
        Check.same("all, with all chunks there", p.all(last), 1);
        checkRealised(p, other, 3, 1);
        int third = p.over(p.range(1, 1, 12), 'k', 7);
        Check.same("collected", p.size(p.collect(p.over(third, 't', 2))), 1);
        checkRealised(p, third, 3, 1);
    }

    /** Of a sequence over one by 't': an element of it asks for an element, all of it for all. */
    private static void firstOnesInAChain() {
        PersistentParlour p = new PersistentParlour();
        int range = p.range(1, 1, 12);
        int first = p.over(p.over(range, 'k', 7), 't', 2);
        int more = p.over(first, 'a', 1);
        int kept = p.over(more, 'k', 8);
        Check.same("the last one", p.at(kept, 0), 8);
        checkRealised(p, kept, 1, 1);
        checkRealised(p, more, 1, 1);
        checkRealised(p, first, 1, 1);
        checkRealised(p, range, 2, 8);
        Check.same("all", p.all(kept), 1);
        checkRealised(p, range, 3, 12);
    }

    private static void firstOnesOfFirstOnes() {
        PersistentParlour p = new PersistentParlour();
        int range = p.range(1, 1, 12);
        int inner = p.over(p.over(range, 'k', 7), 't', 2);
        int exact = p.over(inner, 't', 1);
        int further = p.over(inner, 't', 2);
        Check.same("all of the exact one", p.all(exact), 1);
        checkRealised(p, inner, 1, 1);
        checkRealised(p, range, 2, 8);
        Check.same("the last of the further one", p.at(further, 0), 7);
        checkRealised(p, range, 2, 8);
        Check.same("all of the further one", p.all(further), 1);
        checkRealised(p, range, 3, 12);
        int other = p.range(1, 1, 12);
        int two = p.over(p.over(other, 'k', 4), 't', 2);
        Check.same("all of more than two", p.all(p.over(two, 't', 9)), 2);
        checkRealised(p, other, 2, 8);
    }

    private static void firstOnesOfNone() {
        PersistentParlour p = new PersistentParlour();
        int range = p.range(1, 1, 12);
        int kept = p.over(range, 'k', 50);
        Check.same("none asked", p.all(p.over(kept, 't', 0)), 0);
        checkRealised(p, kept, 0, 0);
        int first = p.over(kept, 't', 3);
        Check.refuses("no element", MISSING, () -> p.at(first, 0));
        checkRealised(p, kept, 0, 0);
        Check.same("none there", p.all(first), 0);
        checkRealised(p, first, 0, 0);
        checkRealised(p, kept, 3, 0);
        checkRealised(p, range, 3, 12);
    }

    private static void division() {
        PersistentParlour p = new PersistentParlour();
        int range = p.range(-5, 1, 12);
        int divided = p.over(range, 'd', 12);
        int more = p.over(divided, 'a', 1);
        int first = p.over(divided, 't', 4);
        int further = p.over(divided, 't', 5);
        Check.same("ahead of the 0", p.at(more, 3), -5);
        checkRealised(p, range, 1, 4);
        Check.refuses("beside the 0", UNSUPPORTED, () -> p.at(more, 4));
        Check.refuses("the 0", UNSUPPORTED, () -> p.at(divided, 5));
        Check.refuses("behind the 0", UNSUPPORTED, () -> p.at(divided, 8));
        Check.refuses("no element", UNSUPPORTED, () -> p.at(divided, 12));
        Check.refuses("element -1", UNSUPPORTED, () -> p.at(divided, -1));
        Check.refuses("all", UNSUPPORTED, () -> p.all(more));
        Check.refuses("no such sequence", INDEX, () -> p.all(12));
        checkRealised(p, range, 1, 4);
        checkRealised(p, divided, 1, 4);
        Check.same("the first ones", p.all(first), 4);
        Check.refuses("no further one", MISSING, () -> p.at(first, 4));
        Check.refuses("one too many", UNSUPPORTED, () -> p.all(further));
        Check.same("of which one is there", p.at(further, 3), -6);
        checkRealised(p, further, 4, 4);
        checkRealised(p, range, 1, 4);
        Check.refuses("collected", UNSUPPORTED, () -> p.collect(further));
        Check.refuses("0 by 0", UNSUPPORTED, () -> p.all(p.over(range, 'd', 0)));
        int kept = p.over(divided, 'k', 5);
        Check.refuses("kept behind it", UNSUPPORTED, () -> p.at(kept, 0));
    }

    private static void all() {
        PersistentParlour p = new PersistentParlour();
        int range = p.range(1, 1, 9);
        int kept = p.over(range, 'k', 9);
        Check.same("all kept", p.all(kept), 1);
        checkRealised(p, kept, 3, 1);
        checkRealised(p, range, 3, 9);
        Check.same("again", p.all(kept), 1);
        Check.same("of the range", p.all(range), 9);
        Check.same("of none", p.all(p.range(0, 0, 0)), 0);
        Check.refuses("no such sequence", INDEX, () -> p.all(3));
        Check.refuses("sequence -1", INDEX, () -> p.all(-1));
    }

    private static void realisedAndChunks() {
        PersistentParlour p = new PersistentParlour();
        int range = p.range(1, 1, 6);
        checkRealised(p, range, 0, 0);
        p.at(range, 0);
        checkRealised(p, range, 1, 4);
        p.all(range);
        checkRealised(p, range, 2, 6);
        int first = p.over(range, 't', 5);
        p.at(first, 2);
        checkRealised(p, first, 3, 3);
        int twice = p.over(first, 't', 2);
        p.all(twice);
        checkRealised(p, twice, 2, 2);
        checkRealised(p, first, 3, 3);
        Check.refuses("realised of none", INDEX, () -> p.realised(3));
        Check.refuses("realised of -1", INDEX, () -> p.realised(-1));
        Check.refuses("chunks of none", INDEX, () -> p.chunks(3));
        Check.refuses("chunks of -1", INDEX, () -> p.chunks(-1));
    }

    private static void collect() {
        PersistentParlour p = new PersistentParlour();
        int range = p.range(3, 2, 18);
        int value = p.collect(range);
        Check.same("number of the value", value, 0);
        Check.same("size", p.size(value), 18);
        Check.same("depth", p.depth(value), 3);
        Check.same("nodes", p.nodes(value), 8);
        Check.same("made", p.made(), 8L);
        Check.same("last", p.get(value, 17), 37);
        Check.same("last, plain", p.getPlain(value, 17), 37);
        checkRealised(p, range, 5, 18);
        int again = p.collect(range);
        Check.same("same elements", p.areSame(value, again), true);
        Check.same("other nodes", p.shared(value, again), 0);
        Check.same("it is lasting", p.size(p.append(again, 1)), 19);
        Check.same("the collected one stays", p.size(again), 18);
        int none = p.collect(p.range(0, 0, 0));
        Check.same("none", p.size(none), 0);
        Check.same("one node", p.nodes(none), 1);
    }

    private static void collectRefuses() {
        PersistentParlour p = new PersistentParlour();
        int high = p.range(99, 9, 24);
        for (int i = 0; i < 7; i++) {
            high = p.over(high, 'a', 99);
        }
        int over = high;
        Check.same("the last is 999 exactly", p.at(over, 23), 99 + 9 * 23 + 99 * 7);
        Check.same("size", p.size(p.collect(over)), 24);
        int tooHigh = p.over(over, 'a', 1);
        Check.refuses("1000", ARGUMENT, () -> p.collect(tooHigh));
        checkRealised(p, tooHigh, 0, 0);
        Check.refuses("no such sequence", INDEX, () -> p.collect(9));
        int low = p.over(p.over(over, 't', 0), 'a', 0);
        for (int i = p.size(p.collect(low)) + 2; i < 60; i++) {
            p.vector();
        }
        Check.refuses("60 values, 1000", ARGUMENT, () -> p.collect(tooHigh));
        Check.refuses("60 values", STATE, () -> p.collect(over));
    }

    private static void collectLooksAtEachElement() {
        PersistentParlour p = new PersistentParlour();
        int falling = p.over(p.range(99, -9, 3), 'a', 98);
        for (int i = 0; i < 8; i++) {
            falling = p.over(falling, 'a', 99);
        }
        int within = falling;
        int firstTooHigh = p.over(within, 'a', 11);
        Check.same("the first is 1000", p.at(firstTooHigh, 0), 1000);
        Check.same("the next is 991", p.at(firstTooHigh, 1), 991);
        Check.refuses("1000 as the first", ARGUMENT, () -> p.collect(firstTooHigh));
        Check.same("989 as the first", p.get(p.collect(within), 0), 989);
        PersistentParlour q = new PersistentParlour();
        int low = q.range(-99, -9, 1);
        for (int i = 0; i < 9; i++) {
            low = q.over(low, 'a', -99);
        }
        int deepest = q.over(low, 'a', -10);
        Check.refuses("-1000", ARGUMENT, () -> q.collect(deepest));
        Check.same("-990", q.get(q.collect(low), 0), -990);
    }
}
