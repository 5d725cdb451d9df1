import java.util.NoSuchElementException;
import java.util.function.Supplier;
import java.util.function.ToLongFunction;

/** What the tests of the document's sentences share: names for its numbers, programs, the test of a refused call. */
abstract class Sentences {
    static final Class<IllegalStateException> STATE = IllegalStateException.class;
    static final Class<IllegalArgumentException> ARGUMENT = IllegalArgumentException.class;
    static final Class<IndexOutOfBoundsException> INDEX = IndexOutOfBoundsException.class;
    static final Class<NoSuchElementException> ELEMENT = NoSuchElementException.class;
    static final Class<UnsupportedOperationException> UNSUPPORTED = UnsupportedOperationException.class;

    static final int NONE = LazyMotion.NONE;
    static final int COPY = 0;
    static final int SET = 1;
    static final int COMPUTE = 2;
    static final int OUT = 3;
    static final int STOP = 0;
    static final int GO = 1;
    static final int BRANCH = 2;
    static final int PLUS = 0;
    static final int MINUS = 1;
    static final int TIMES = 2;
    static final int AND = 3;
    static final int LESS = 4;
    static final int THERE_BEFORE = 0;
    static final int THERE_BEHIND = 1;
    static final int WANTED_BEFORE = 2;
    static final int WANTED_BEHIND = 3;
    static final int LATE_BEFORE = 4;
    static final int TAKEN_OUT = 5;
    static final int MANY = Integer.MAX_VALUE;
    static final int FEW = Integer.MIN_VALUE;

    /** Next to 0 .. 5 on both sides, and far off. */
    static final int[] NO_VARIABLES = {-1, 6, FEW, MANY};

    /** 0 computes 0+1 and branches on 2; 1 computes it again; 2 changes 0; 3 computes it once more. */
    static LazyMotion diamond() {
        LazyMotion m = new LazyMotion();
        m.block();
        m.statement(COMPUTE, 3, 0, PLUS, 1);
        m.end(0, BRANCH, 2, 1, 2);
        m.block();
        m.statement(COMPUTE, 4, 0, PLUS, 1);
        m.end(1, GO, 0, 3, 0);
        m.block();
        m.statement(SET, 0, 9, 0, 0);
        m.end(2, GO, 0, 3, 0);
        m.block();
        m.statement(COMPUTE, 5, 0, PLUS, 1);
        return m;
    }

    static LazyMotion plannedDiamond() {
        LazyMotion m = diamond();
        m.plan();
        return m;
    }

    /** A planned one that has run and given numbers out. */
    static LazyMotion ranDiamond() {
        LazyMotion m = diamond();
        m.statement(OUT, 5, 0, 0, 0);
        m.statement(OUT, 0, 0, 0, 0);
        m.plan();
        m.run(true, 2, 3, 0);
        return m;
    }

    static LazyMotion blocks(int count) {
        LazyMotion m = new LazyMotion();
        for (int b = 0; b < count; b++) {
            m.block();
        }
        return m;
    }

    /** Block b goes on to b + 1, the last one stops. */
    static LazyMotion chain(int count) {
        LazyMotion m = blocks(count);
        for (int b = 0; b + 1 < count; b++) {
            m.end(b, GO, 0, b + 1, 0);
        }
        return m;
    }

    /** As many expressions, each computed once into 5, which is in none of them, five in a block. */
    static LazyMotion expressions(int count) {
        LazyMotion m = new LazyMotion();
        for (int e = 0; e < count; e++) {
            if (e % 5 == 0) {
                m.block();
            }
            m.statement(COMPUTE, 5, leftOf(e), operatorOf(e), 4);
        }
        return m;
    }

    static int leftOf(int e) {
        return e / 5;
    }

    static int operatorOf(int e) {
        return e % 5;
    }

    static void sets(LazyMotion m, int b, long... want) {
        for (int what = 0; what < want.length; what++) {
            Check.due("set(" + b + ", " + what + ")", m.set(b, what), want[what]);
        }
    }

    /** The call throws what is due, and leaves the object as one that never had the call. */
    static void refused(Class<? extends RuntimeException> want, String call, Supplier<LazyMotion> made,
            ToLongFunction<LazyMotion> asked) {
        LazyMotion m = made.get();
        LazyMotion twin = made.get();
        Check.throwing(call, want, () -> asked.applyAsLong(m));
        Check.due("what is seen behind the refused " + call, seen(m), seen(twin));
        Check.due("what comes behind the refused " + call, wentOn(m), wentOn(twin));
    }

    private static String seen(LazyMotion m) {
        StringBuilder text = new StringBuilder();
        for (int what = 0; what < 4; what++) {
            text.append(m.count(what)).append(' ');
        }
        text.append(m.outs()).append(' ').append(m.computed(0)).append(' ').append(m.computed(24 - 1));
        for (int x = 0; x < 6; x++) {
            text.append(' ').append(m.variable(x));
        }
        tell(text, () -> m.out(0));
        tell(text, () -> m.out(1));
        tell(text, () -> m.put(NONE, 0));
        tell(text, () -> m.put(2, 3));
        for (int what = 0; what < 6; what++) {
            int w = what;
            tell(text, () -> m.set(0, w));
            tell(text, () -> m.set(3, w));
        }
        return text.toString();
    }

    private static String wentOn(LazyMotion m) {
        StringBuilder text = new StringBuilder();
        tell(text, m::plan);
        tell(text, () -> m.run(false, 7, 8, 1));
        tell(text, () -> m.statement(OUT, 1, 0, 0, 0));
        tell(text, m::block);
        tell(text, m::plan);
        tell(text, () -> m.run(true, 7, 8, 0));
        return text + " " + seen(m);
    }

    private static void tell(StringBuilder text, Check.Call call) {
        text.append(' ').append(Check.told(call));
    }
}
