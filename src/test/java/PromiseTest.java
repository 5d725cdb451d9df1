import java.util.NoSuchElementException;

/** The promises of the document one by one: ordinary inputs, the edges that it names, and wrong inputs. */
public final class PromiseTest {
    private static final Class<IllegalStateException> STATE = IllegalStateException.class;
    private static final Class<IllegalArgumentException> ARGUMENT = IllegalArgumentException.class;
    private static final Class<IndexOutOfBoundsException> INDEX = IndexOutOfBoundsException.class;
    private static final Class<NoSuchElementException> ELEMENT = NoSuchElementException.class;
    private static final Class<UnsupportedOperationException> UNSUPPORTED = UnsupportedOperationException.class;

    private static final int COPY = 0;
    private static final int SET = 1;
    private static final int COMPUTE = 2;
    private static final int OUT = 3;
    private static final int STOP = 0;
    private static final int GO = 1;
    private static final int BRANCH = 2;
    private static final int PLUS = 0;
    private static final int MINUS = 1;
    private static final int TIMES = 2;
    private static final int AND = 3;
    private static final int LESS = 4;
    private static final int MANY = Integer.MAX_VALUE;
    private static final int FEW = Integer.MIN_VALUE;

    public static void main(String[] args) {
        promise1NewObject();
        promise2Block();
        promise3StatementKinds();
        promise3StatementWrong();
        promise3StatementLimits();
        promise4End();
        promise4EndWrong();
        promise5Plan();
        promise5PlanWrong();
        promise6SetOfDiamond();
        promise6SetInsideBlock();
        promise6SetGreatest();
        promise6SetUnreached();
        promise6SetWrong();
        promise7Put();
        promise7PutOutsideAndUnmoved();
        promise7PutWrong();
        promise8Expression();
        promise9RunOperators();
        promise9RunStatements();
        promise9RunLimit();
        promise9RunStopsBeforeEdge();
        promise9RunTemporaries();
        promise9RunWrong();
        promise10Outs();
        promise11Out();
        promise12Variable();
        promise13Computed();
        promise14Count();
        planGoesInvalid();
        Check.end("PromiseTest");
    }

    private static void promise1NewObject() {
        LazyMotion m = new LazyMotion();
        Check.due("1: NONE", LazyMotion.NONE, -1);
        for (int what = 0; what < 4; what++) {
            Check.due("1: count(" + what + ") of a new object", m.count(what), 0);
        }
        Check.throwing("1: nothing is planned, set", STATE, () -> m.set(0, 0));
        Check.throwing("1: nothing is planned, put", STATE, () -> m.put(-1, 0));
        Check.throwing("1: nothing is planned, run", STATE, () -> m.run(false, 0, 0, 0));
        LazyMotion other = new LazyMotion();
        other.block();
        Check.due("1: objects share nothing", m.count(0), 0);
    }

    private static void promise2Block() {
        LazyMotion m = new LazyMotion();
        for (int b = 0; b < 16; b++) {
            Check.due("2: block()", m.block(), b);
        }
        Check.throwing("2: the 17th block", STATE, m::block);
        Check.due("2: no 17th block", m.count(0), 16);
        Check.due("2: statements go to the latest block", m.statement(OUT, 0, 0, 0, 0), 1);
        Check.due("2: blocks stop at first", m.plan(), 0);
        m.run(false, 7, 0, 0);
        Check.due("2: block 0 is first and stops", m.count(3), 1);
        Check.due("2: block 0 has no statements", m.outs(), 0);
        Check.throwing("2: the 17th block after a plan", STATE, m::block);
        Check.due("2: a refused block leaves the plan", m.set(0, 0), 0);
    }

    private static void promise3StatementKinds() {
        LazyMotion m = new LazyMotion();
        m.block();
        Check.due("3: COPY looks at x and a alone", m.statement(COPY, 5, 0, FEW, MANY), 1);
        Check.due("3: SET of the least short", m.statement(SET, 0, -32768, FEW, MANY), 2);
        Check.due("3: SET of the greatest short", m.statement(SET, 0, 32767, MANY, FEW), 3);
        Check.due("3: COMPUTE", m.statement(COMPUTE, 5, 5, LESS, 5), 4);
        Check.due("3: OUT looks at x alone", m.statement(OUT, 5, MANY, FEW, MANY), 5);
        m.block();
        Check.due("3: counted for each block", m.statement(COPY, 0, 5, 0, 0), 1);
        Check.due("3: expressions", m.count(1), 1);
    }

    private static void promise3StatementWrong() {
        LazyMotion m = new LazyMotion();
        Check.throwing("3: no block", STATE, () -> m.statement(OUT, 0, 0, 0, 0));
        Check.throwing("3: wrong, and no block", ARGUMENT, () -> m.statement(OUT, 6, 0, 0, 0));
        m.block();
        for (int bad : new int[] {-1, 6, FEW, MANY}) {
            for (int kind = COPY; kind <= OUT; kind++) {
                int k = kind;
                Check.throwing("3: x of kind " + k, ARGUMENT, () -> m.statement(k, bad, 0, 0, 0));
            }
            Check.throwing("3: y of COPY", ARGUMENT, () -> m.statement(COPY, 0, bad, 0, 0));
            Check.throwing("3: y of COMPUTE", ARGUMENT, () -> m.statement(COMPUTE, 0, bad, 0, 0));
            Check.throwing("3: z of COMPUTE", ARGUMENT, () -> m.statement(COMPUTE, 0, 0, 0, bad));
        }
        for (int bad : new int[] {-1, 5, FEW, MANY}) {
            Check.throwing("3: operator", ARGUMENT, () -> m.statement(COMPUTE, 0, 0, bad, 0));
        }
        for (int bad : new int[] {-1, 4, FEW, MANY}) {
            Check.throwing("3: kind", ARGUMENT, () -> m.statement(bad, 0, 0, 0, 0));
        }
        for (int bad : new int[] {-32769, 32768, FEW, MANY}) {
            Check.throwing("3: n of SET", ARGUMENT, () -> m.statement(SET, 0, bad, 0, 0));
        }
        Check.due("3: nothing wrong was kept", m.statement(OUT, 0, 0, 0, 0), 1);
        Check.due("3: no wrong expression was kept", m.count(1), 0);
    }

    private static void promise3StatementLimits() {
        LazyMotion m = new LazyMotion();
        for (int n = 0; n < 24; n++) {
            if (n % 5 == 0) {
                m.block();
            }
            m.statement(COMPUTE, 0, n / 5, n % 5, 1);
        }
        Check.due("3: 24 expressions", m.count(1), 24);
        Check.throwing("3: the 25th expression", STATE, () -> m.statement(COMPUTE, 0, 5, 4, 1));
        Check.throwing("3: wrong before the 25th", ARGUMENT, () -> m.statement(COMPUTE, 0, 6, 4, 1));
        Check.due("3: an old expression is none more", m.statement(COMPUTE, 0, 4, 3, 1), 5);
        Check.throwing("3: the sixth statement", STATE, () -> m.statement(OUT, 0, 0, 0, 0));
        Check.throwing("3: wrong before the sixth", ARGUMENT, () -> m.statement(4, 0, 0, 0, 0));
        m.block();
        Check.due("3: after the limit other kinds go on", m.statement(OUT, 0, 0, 0, 0), 1);
        LazyMotion full = new LazyMotion();
        full.block();
        for (int i = 1; i <= 5; i++) {
            full.statement(OUT, 0, 0, 0, 0);
        }
        Check.throwing("3: a sixth COMPUTE", STATE, () -> full.statement(COMPUTE, 0, 0, 0, 0));
        Check.due("3: makes no expression", full.count(1), 0);
    }

    private static void promise4End() {
        LazyMotion m = new LazyMotion();
        m.block();
        Check.due("4: STOP looks at nothing", m.end(0, STOP, MANY, FEW, MANY), 0);
        Check.due("4: GO looks at a alone", m.end(0, GO, MANY, 15, FEW), 1);
        Check.due("4: BRANCH to two", m.end(0, BRANCH, 5, 15, 0), 2);
        Check.due("4: BRANCH to the same", m.end(0, BRANCH, 0, 15, 15), 1);
        m.block();
        m.block();
        Check.due("4: BRANCH of block 0", m.end(0, BRANCH, 2, 1, 2), 2);
        m.statement(OUT, 2, 0, 0, 0);
        m.plan();
        m.run(false, 0, 0, -1);
        Check.due("4: not 0 goes to a", m.outs(), 0);
        m.run(false, 0, 0, 0);
        Check.due("4: 0 goes to b", m.outs(), 1);
        m.end(0, STOP, 0, 0, 0);
        m.plan();
        m.run(false, 0, 0, 0);
        Check.due("4: STOP in place of it", m.count(3), 1);
    }

    private static void promise4EndWrong() {
        LazyMotion m = new LazyMotion();
        Check.throwing("4: no block at all", ARGUMENT, () -> m.end(0, STOP, 0, 0, 0));
        m.block();
        for (int bad : new int[] {-1, 1, 16, FEW, MANY}) {
            Check.throwing("4: block", ARGUMENT, () -> m.end(bad, STOP, 0, 0, 0));
        }
        for (int bad : new int[] {-1, 3, FEW, MANY}) {
            Check.throwing("4: kind", ARGUMENT, () -> m.end(0, bad, 0, 0, 0));
        }
        for (int bad : new int[] {-1, 16, FEW, MANY}) {
            Check.throwing("4: a of GO", ARGUMENT, () -> m.end(0, GO, 0, bad, 0));
            Check.throwing("4: a of BRANCH", ARGUMENT, () -> m.end(0, BRANCH, 0, bad, 0));
            Check.throwing("4: b of BRANCH", ARGUMENT, () -> m.end(0, BRANCH, 0, 0, bad));
        }
        for (int bad : new int[] {-1, 6, FEW, MANY}) {
            Check.throwing("4: x of BRANCH", ARGUMENT, () -> m.end(0, BRANCH, bad, 0, 0));
        }
        m.plan();
        Check.throwing("4: a wrong end after a plan", ARGUMENT, () -> m.end(0, 3, 0, 0, 0));
        Check.due("4: leaves the plan", m.run(true, 0, 0, 0), 0);
        Check.due("4: and the old end", m.count(3), 1);
    }

    /** 0 computes 0+1 and branches on 2; 1 computes it again; 2 changes 0; 3 computes it once more. */
    private static LazyMotion diamond() {
        LazyMotion m = new LazyMotion();
        m.block();
        m.statement(COMPUTE, 3, 0, PLUS, 1);
        m.end(0, BRANCH, 2, 1, 2);
        m.block();
        m.statement(COMPUTE, 4, 0, PLUS, 1);
        m.end(1, GO, 0, 3, 0);
        m.block();
        m.statement(SET, 0, 9, 0, 0);
        m.end(2, GO, 0, 3, 0);
        m.block();
        m.statement(COMPUTE, 5, 0, PLUS, 1);
        return m;
    }

    private static void promise5Plan() {
        LazyMotion m = diamond();
        Check.due("5: plan()", m.plan(), 1);
        Check.due("5: plan() again", m.plan(), 1);
        Check.due("5: both are counted", m.count(2), 2);
        LazyMotion empty = new LazyMotion();
        empty.block();
        Check.due("5: no expression", empty.plan(), 0);
        empty.statement(COMPUTE, 3, 0, PLUS, 1);
        Check.due("5: one that has no reason to move", empty.plan(), 0);
        LazyMotion three = new LazyMotion();
        three.block();
        three.statement(COMPUTE, 3, 0, PLUS, 1);
        three.statement(COMPUTE, 3, 0, MINUS, 1);
        three.statement(COMPUTE, 3, 0, TIMES, 1);
        three.end(0, GO, 0, 1, 0);
        three.block();
        three.statement(COMPUTE, 4, 0, TIMES, 1);
        three.statement(COMPUTE, 4, 0, PLUS, 1);
        three.end(1, GO, 0, 2, 0);
        three.block();
        three.statement(COMPUTE, 5, 0, PLUS, 1);
        Check.due("5: counted once, though taken out of two blocks", three.plan(), 2);
    }

    private static void promise5PlanWrong() {
        LazyMotion m = new LazyMotion();
        Check.throwing("5: no block", STATE, m::plan);
        m.block();
        m.end(0, GO, 0, 1, 0);
        Check.throwing("5: GO to a block that there is not", UNSUPPORTED, m::plan);
        m.end(0, BRANCH, 0, 1, 0);
        Check.throwing("5: BRANCH to one, a", UNSUPPORTED, m::plan);
        m.end(0, BRANCH, 0, 0, 1);
        Check.throwing("5: BRANCH to one, b", UNSUPPORTED, m::plan);
        Check.throwing("5: what failed is no plan", STATE, () -> m.run(false, 0, 0, 0));
        m.block();
        Check.due("5: the block was made later", m.plan(), 0);
        m.end(0, STOP, 0, 0, 0);
        m.end(1, GO, 0, 2, 0);
        Check.throwing("5: also from one that can't be reached", UNSUPPORTED, m::plan);
        Check.due("5: plans that failed are not counted", m.count(2), 1);
    }

    private static void sets(String what, LazyMotion m, int b, long... want) {
        for (int i = 0; i < want.length; i++) {
            Check.due("6: " + what + ", set(" + b + ", " + i + ")", m.set(b, i), want[i]);
        }
    }

    private static void promise6SetOfDiamond() {
        LazyMotion m = diamond();
        m.plan();
        sets("diamond", m, 0, 0, 1, 1, 0, 1, 0);
        sets("diamond", m, 1, 1, 1, 1, 1, 0, 1);
        sets("diamond", m, 2, 1, 0, 0, 1, 0, 0);
        sets("diamond", m, 3, 0, 1, 1, 0, 0, 1);
    }

    private static void promise6SetInsideBlock() {
        LazyMotion m = new LazyMotion();
        m.block();
        m.statement(COMPUTE, 0, 0, PLUS, 1);
        m.statement(COMPUTE, 3, 0, MINUS, 2);
        m.statement(COMPUTE, 4, 1, TIMES, 2);
        m.statement(OUT, 1, 0, 0, 0);
        m.plan();
        // x is y: asked for, not left. Changed before: left, not asked for. OUT changes nothing.
        sets("inside", m, 0, 0, 0b110, 0b101, 0, 0b101, 0);
        m.statement(COPY, 2, 3, 0, 0);
        m.plan();
        sets("inside, then 2 is changed", m, 0, 0, 0, 0b101, 0, 0b101, 0);
        LazyMotion again = new LazyMotion();
        again.block();
        again.statement(SET, 0, 1, 0, 0);
        again.statement(COMPUTE, 3, 0, PLUS, 1);
        again.statement(SET, 1, 2, 0, 0);
        again.plan();
        sets("changed before and behind", again, 0, 0, 0, 0, 0, 0, 0);
        again.statement(COMPUTE, 3, 0, PLUS, 1);
        again.plan();
        sets("the last one is left", again, 0, 0, 1, 0, 0, 0, 0);
        LazyMotion right = new LazyMotion();
        right.block();
        right.statement(COMPUTE, 1, 0, PLUS, 1);
        right.plan();
        sets("x is z", right, 0, 0, 0, 1, 0, 1, 0);
    }

    /** Around a loop without an exit everything fits, and the greatest sets keep it. */
    private static void promise6SetGreatest() {
        LazyMotion m = new LazyMotion();
        m.block();
        m.end(0, BRANCH, 0, 1, 2);
        m.block();
        m.end(1, GO, 0, 1, 0);
        m.block();
        m.statement(COMPUTE, 3, 0, PLUS, 1);
        m.statement(COMPUTE, 3, 0, MINUS, 1);
        m.plan();
        sets("endless loop", m, 0, 0, 0, 3, 3, 3, 0);
        sets("endless loop", m, 1, 0, 0, 3, 3, 3, 0);
        sets("endless loop", m, 2, 0, 3, 3, 0, 3, 0);
        LazyMotion loop = new LazyMotion();
        loop.block();
        loop.statement(COMPUTE, 3, 0, PLUS, 1);
        loop.end(0, GO, 0, 1, 0);
        loop.block();
        loop.end(1, BRANCH, 2, 1, 2);
        loop.block();
        loop.statement(COMPUTE, 4, 0, PLUS, 1);
        loop.plan();
        sets("there around a loop", loop, 1, 1, 1, 1, 1, 0, 0);
        sets("there behind a loop", loop, 2, 1, 1, 1, 0, 0, 1);
    }

    private static void promise6SetUnreached() {
        LazyMotion m = new LazyMotion();
        m.block();
        m.statement(COMPUTE, 3, 0, PLUS, 1);
        m.end(0, GO, 0, 2, 0);
        m.block();
        m.statement(SET, 0, 1, 0, 0);
        m.statement(COMPUTE, 3, 1, PLUS, 1);
        m.end(1, BRANCH, 0, 0, 2);
        m.block();
        m.statement(COMPUTE, 4, 0, PLUS, 1);
        Check.due("6: blocks that can't be reached hinder nothing", m.plan(), 1);
        sets("unreached", m, 0, 0, 1, 1, 1, 1, 0);
        sets("unreached", m, 1, 0, 0, 0, 0, 0, 0);
        sets("unreached", m, 2, 1, 1, 1, 0, 0, 1);
        m.end(0, STOP, 0, 0, 0);
        m.plan();
        sets("no more reached", m, 2, 0, 0, 0, 0, 0, 0);
    }

    private static void promise6SetWrong() {
        LazyMotion m = new LazyMotion();
        Check.throwing("6: no block", STATE, () -> m.set(0, 0));
        m.block();
        Check.throwing("6: not planned", STATE, () -> m.set(0, 0));
        Check.throwing("6: not planned, and no such what", STATE, () -> m.set(5, 9));
        m.plan();
        for (int bad : new int[] {-1, 1, 16, FEW, MANY}) {
            Check.throwing("6: block", INDEX, () -> m.set(bad, 0));
        }
        for (int bad : new int[] {-1, 6, FEW, MANY}) {
            Check.throwing("6: what", INDEX, () -> m.set(0, bad));
        }
    }

    private static void promise7Put() {
        LazyMotion m = diamond();
        m.plan();
        Check.due("7: from outside", m.put(LazyMotion.NONE, 0), 0);
        Check.due("7: 0 to 1", m.put(0, 1), 0);
        Check.due("7: 0 to 2", m.put(0, 2), 0);
        Check.due("7: 1 to 3", m.put(1, 3), 0);
        Check.due("7: 2 to 3", m.put(2, 3), 1);
        LazyMotion later = new LazyMotion();
        later.block();
        later.end(0, BRANCH, 2, 1, 2);
        later.block();
        later.statement(COMPUTE, 3, 0, PLUS, 1);
        later.end(1, GO, 0, 3, 0);
        later.block();
        later.end(2, GO, 0, 3, 0);
        later.block();
        later.statement(COMPUTE, 4, 0, PLUS, 1);
        Check.due("7: asked for on one side", later.plan(), 1);
        Check.due("7: put as late as it can be", later.put(2, 3), 1);
        Check.due("7: not earlier", later.put(0, 2), 0);
        Check.due("7: nor outside", later.put(-1, 0), 0);
        later.end(2, BRANCH, 1, 3, 3);
        later.plan();
        Check.due("7: two ways to the same block are one edge", later.put(2, 3), 1);
        Check.due("7: gone along once", later.run(true, 1, 2, 0), 1);
    }

    private static void promise7PutOutsideAndUnmoved() {
        LazyMotion m = new LazyMotion();
        m.block();
        m.statement(COMPUTE, 3, 0, PLUS, 1);
        m.end(0, BRANCH, 2, 0, 1);
        m.block();
        m.plan();
        Check.due("7: in front of a loop at the start", m.put(LazyMotion.NONE, 0), 1);
        Check.due("7: not around it", m.put(0, 0), 0);
        LazyMotion unmoved = unmoved();
        Check.due("7: nothing is moved", unmoved.plan(), 0);
        Check.due("7: and yet it is put", unmoved.put(2, 3), 1);
        Check.due("7: not where it is there", unmoved.put(1, 3), 0);
        Check.due("7: nor around the loop", unmoved.put(3, 3), 0);
        Check.due("9: not computed in the program", unmoved.run(false, 1, 2, 0), 0);
        Check.due("9: computed on the edge, though not moved", unmoved.run(true, 1, 2, 0), 1);
        Check.due("13: and counted", unmoved.computed(0), 1);
    }

    /** 0 branches on 2; 1 computes 0+1, 2 does not; both go to 3, an endless loop, which wants all and asks for nothing. */
    private static LazyMotion unmoved() {
        LazyMotion m = new LazyMotion();
        m.block();
        m.end(0, BRANCH, 2, 1, 2);
        m.block();
        m.statement(COMPUTE, 3, 0, PLUS, 1);
        m.end(1, GO, 0, 3, 0);
        m.block();
        m.end(2, GO, 0, 3, 0);
        m.block();
        m.end(3, GO, 0, 3, 0);
        return m;
    }

    private static void promise7PutWrong() {
        LazyMotion m = new LazyMotion();
        Check.throwing("7: no block", STATE, () -> m.put(-1, 0));
        m.block();
        Check.throwing("7: not planned", STATE, () -> m.put(-1, 0));
        Check.throwing("7: not planned, and no edge", STATE, () -> m.put(9, 9));
        m.block();
        m.end(1, GO, 0, 0, 0);
        m.plan();
        Check.due("7: from outside", m.put(-1, 0), 0);
        Check.throwing("7: from outside to another", ELEMENT, () -> m.put(-1, 1));
        Check.throwing("7: from outside to outside", ELEMENT, () -> m.put(-1, -1));
        Check.throwing("7: a STOP has no edge outside", ELEMENT, () -> m.put(0, -1));
        Check.throwing("7: no edge", ELEMENT, () -> m.put(0, 1));
        Check.throwing("7: from a block that can't be reached", ELEMENT, () -> m.put(1, 0));
        for (int bad : new int[] {-2, 2, 16, FEW, MANY}) {
            Check.throwing("7: from no block", ELEMENT, () -> m.put(bad, 0));
            Check.throwing("7: to no block", ELEMENT, () -> m.put(0, bad));
            Check.throwing("7: from outside to no block", ELEMENT, () -> m.put(-1, bad));
        }
    }

    private static void promise8Expression() {
        LazyMotion m = new LazyMotion();
        Check.throwing("8: none at all", ELEMENT, () -> m.expression(0, 0, 0));
        m.block();
        m.statement(COMPUTE, 3, 1, MINUS, 0);
        m.statement(COMPUTE, 3, 0, MINUS, 1);
        m.statement(COMPUTE, 4, 1, MINUS, 0);
        m.block();
        m.statement(COMPUTE, 4, 0, PLUS, 1);
        Check.due("8: the first", m.expression(1, MINUS, 0), 0);
        Check.due("8: the other order", m.expression(0, MINUS, 1), 1);
        Check.due("8: without a plan, of a block that can't be reached", m.expression(0, PLUS, 1), 2);
        Check.throwing("8: other y", ELEMENT, () -> m.expression(2, MINUS, 0));
        Check.throwing("8: other operator", ELEMENT, () -> m.expression(1, TIMES, 0));
        Check.throwing("8: other z", ELEMENT, () -> m.expression(1, MINUS, 1));
        for (int bad : new int[] {-1, 6, FEW, MANY}) {
            Check.throwing("8: no y", ELEMENT, () -> m.expression(bad, MINUS, 0));
            Check.throwing("8: no operator", ELEMENT, () -> m.expression(1, bad, 0));
            Check.throwing("8: no z", ELEMENT, () -> m.expression(1, MINUS, bad));
        }
    }

    private static long value(int op, int y, int z) {
        LazyMotion m = new LazyMotion();
        m.block();
        m.statement(COMPUTE, 3, 0, op, 1);
        m.plan();
        Check.due("9: one computation", m.run(true, y, z, 0), 1);
        return m.variable(3);
    }

    private static void promise9RunOperators() {
        Check.due("9: plus", value(PLUS, 2, 3), 5);
        Check.due("9: plus wraps", value(PLUS, MANY, 1), FEW);
        Check.due("9: minus", value(MINUS, 2, 3), -1);
        Check.due("9: minus wraps", value(MINUS, FEW, 1), MANY);
        Check.due("9: times", value(TIMES, -2, 3), -6);
        Check.due("9: times wraps", value(TIMES, 1 << 16, 1 << 16), 0);
        Check.due("9: and", value(AND, -1, 12), 12);
        Check.due("9: and of bits", value(AND, 6, 3), 2);
        Check.due("9: less", value(LESS, 2, 3), 1);
        Check.due("9: not less", value(LESS, 3, 3), 0);
        Check.due("9: less, of signed numbers", value(LESS, FEW, MANY), 1);
    }

    private static void promise9RunStatements() {
        LazyMotion m = new LazyMotion();
        m.block();
        m.statement(COPY, 4, 2, 0, 0);
        m.statement(SET, 5, -32768, 0, 0);
        m.statement(COMPUTE, 0, 0, PLUS, 0);
        m.statement(OUT, 3, 0, 0, 0);
        m.plan();
        Check.due("9: COPY, SET and OUT are no computations", m.run(false, 10, 11, 12), 1);
        int[] want = {20, 11, 12, 0, 12, -32768};
        for (int x = 0; x < 6; x++) {
            Check.due("9: variable " + x, m.variable(x), want[x]);
        }
        Check.due("9: a variable is 0 at first", m.out(0), 0);
        m.run(true, 1, 2, 3);
        Check.due("9: each run starts anew", m.variable(4), 3);
    }

    private static void promise9RunLimit() {
        LazyMotion m = new LazyMotion();
        m.block();
        m.statement(SET, 3, 1, 0, 0);
        m.end(0, GO, 0, 1, 0);
        m.block();
        m.statement(COMPUTE, 0, 0, MINUS, 3);
        m.end(1, BRANCH, 0, 1, 2);
        m.block();
        m.statement(OUT, 3, 0, 0, 0);
        m.plan();
        for (boolean fresh : new boolean[] {false, true}) {
            Check.due("9: 200 blocks are gone through", m.run(fresh, 198, 0, 0), 198);
            Check.due("9: the 200th whole", m.outs(), 1);
            Check.due("9: 200 in all", m.count(3), 200);
            Check.due("9: the 201st is not", m.run(fresh, 199, 0, 0), 199);
            Check.due("9: nothing out of it", m.outs(), 0);
            Check.due("9: still 200 in all", m.count(3), 200);
        }
    }

    /** The edge behind the 200th block is not gone along, as the run stops behind the block. */
    private static void promise9RunStopsBeforeEdge() {
        LazyMotion m = new LazyMotion();
        m.block();
        m.end(0, BRANCH, 2, 1, 2);
        m.block();
        m.statement(COMPUTE, 4, 0, PLUS, 1);
        m.end(1, GO, 0, 2, 0);
        m.block();
        m.statement(COMPUTE, 5, 0, PLUS, 1);
        m.statement(SET, 0, 1, 0, 0);
        m.end(2, GO, 0, 0, 0);
        Check.due("9: moved", m.plan(), 1);
        Check.due("9: put between 0 and 2", m.put(0, 2), 1);
        Check.due("9: 100 times 0 and 2", m.run(true, 1, 1, 0), 100);
        m.end(0, BRANCH, 2, 1, 3);
        m.block();
        m.end(3, GO, 0, 2, 0);
        m.plan();
        Check.due("9: put between 3 and 2", m.put(3, 2), 1);
        m.run(true, 1, 1, 0);
        // 0, 3, 2 and again: the 200th block is 3.
        Check.due("9: the edge from 3 to 2 behind it is not gone along", m.computed(0), 66);
    }

    private static void promise9RunTemporaries() {
        LazyMotion m = diamond();
        m.plan();
        Check.due("9: as it was, by 1", m.run(false, 2, 3, 1), 3);
        Check.due("9: new, by 1", m.run(true, 2, 3, 1), 1);
        Check.due("9: 4 is the temporary", m.variable(4), 5);
        Check.due("9: 5 is the temporary", m.variable(5), 5);
        Check.due("9: as it was, by 2", m.run(false, 2, 3, 0), 2);
        Check.due("9: new, by 2", m.run(true, 2, 3, 0), 2);
        Check.due("9: the temporary was set on the edge", m.variable(5), 12);
        LazyMotion twice = new LazyMotion();
        twice.block();
        twice.statement(COMPUTE, 3, 0, PLUS, 1);
        twice.end(0, GO, 0, 1, 0);
        twice.block();
        twice.statement(COMPUTE, 0, 0, PLUS, 1);
        twice.statement(COMPUTE, 4, 0, PLUS, 1);
        twice.statement(COMPUTE, 4, 0, PLUS, 1);
        twice.end(1, GO, 0, 2, 0);
        twice.block();
        twice.statement(COMPUTE, 5, 0, PLUS, 1);
        Check.due("9: moved", twice.plan(), 1);
        Check.due("9: only the first of a block takes the temporary", twice.run(true, 1, 10, 0), 3);
        Check.due("9: the first", twice.variable(0), 11);
        Check.due("9: the others set it anew", twice.variable(4), 21);
        Check.due("9: for the next block", twice.variable(5), 21);
    }

    private static void promise9RunWrong() {
        LazyMotion m = new LazyMotion();
        Check.throwing("9: no block", STATE, () -> m.run(false, 0, 0, 0));
        m.block();
        Check.throwing("9: not planned, as it was", STATE, () -> m.run(false, 0, 0, 0));
        Check.throwing("9: not planned, new", STATE, () -> m.run(true, 0, 0, 0));
        m.statement(OUT, 0, 0, 0, 0);
        m.plan();
        m.run(true, 8, 0, 0);
        m.end(0, GO, 0, 0, 0);
        Check.throwing("9: not planned as it is", STATE, () -> m.run(false, 1, 0, 0));
        Check.due("9: a refused run leaves the latest one", m.variable(0), 8);
        Check.due("9: and its numbers", m.out(0), 8);
    }

    /** Gives out variables 0, 1 and 0 while it counts 0 down. */
    private static LazyMotion talker() {
        LazyMotion m = new LazyMotion();
        m.block();
        m.statement(OUT, 0, 0, 0, 0);
        m.statement(OUT, 1, 0, 0, 0);
        m.statement(OUT, 0, 0, 0, 0);
        m.statement(COMPUTE, 0, 0, MINUS, 2);
        m.end(0, BRANCH, 0, 0, 1);
        m.block();
        return m;
    }

    private static void promise10Outs() {
        LazyMotion m = talker();
        Check.due("10: no run", m.outs(), 0);
        m.plan();
        Check.due("10: a plan is no run", m.outs(), 0);
        m.run(false, 2, 7, 1);
        Check.due("10: six numbers", m.outs(), 6);
        m.run(true, 100, 7, 1);
        Check.due("10: more than a hundred are counted", m.outs(), 300);
        m.run(true, 1, 7, 1);
        Check.due("10: of the latest run alone", m.outs(), 3);
        m.block();
        Check.due("10: also when the program has changed", m.outs(), 3);
        LazyMotion loud = new LazyMotion();
        loud.block();
        for (int i = 0; i < 5; i++) {
            loud.statement(OUT, 0, 0, 0, 0);
        }
        loud.end(0, GO, 0, 0, 0);
        loud.plan();
        loud.run(false, 1, 0, 0);
        Check.due("10: the most there can be", loud.outs(), 1000);
    }

    private static void promise11Out() {
        LazyMotion m = talker();
        Check.throwing("11: no run", INDEX, () -> m.out(0));
        m.plan();
        m.run(false, 40, -5, 1);
        Check.due("11: the first", m.out(0), 40);
        Check.due("11: the second", m.out(1), -5);
        Check.due("11: the fourth", m.out(3), 39);
        Check.due("11: the hundredth", m.out(99), 7);
        Check.throwing("11: not the 101st, though it was given", INDEX, () -> m.out(100));
        m.run(false, 1, 9, 1);
        Check.due("11: the last one of a short run", m.out(2), 1);
        for (int bad : new int[] {-1, 3, 4, 99, 100, FEW, MANY}) {
            Check.throwing("11: none there", INDEX, () -> m.out(bad));
        }
    }

    private static void promise12Variable() {
        LazyMotion m = new LazyMotion();
        for (int x = 0; x < 6; x++) {
            Check.due("12: no run", m.variable(x), 0);
        }
        for (int bad : new int[] {-1, 6, FEW, MANY}) {
            Check.throwing("12: no such variable", INDEX, () -> m.variable(bad));
        }
        m.block();
        m.statement(SET, 5, 77, 0, 0);
        m.plan();
        m.run(false, FEW, MANY, -3);
        Check.due("12: a", m.variable(0), FEW);
        Check.due("12: b", m.variable(1), MANY);
        Check.due("12: c", m.variable(2), -3);
        Check.due("12: 0 at first", m.variable(3), 0);
        Check.due("12: at the end of the run", m.variable(5), 77);
        m.statement(SET, 5, 78, 0, 0);
        Check.due("12: of the latest run, also when the program has changed", m.variable(5), 77);
    }

    private static void promise13Computed() {
        LazyMotion m = diamond();
        Check.due("13: no run", m.computed(0), 0);
        m.plan();
        m.run(false, 2, 3, 1);
        Check.due("13: as it was", m.computed(0), 3);
        m.run(true, 2, 3, 1);
        Check.due("13: not where it took a temporary", m.computed(0), 1);
        m.run(true, 2, 3, 0);
        Check.due("13: on an edge, too", m.computed(0), 2);
        for (int none : new int[] {-1, 1, 23, 24, FEW, MANY}) {
            Check.due("13: none of this number", m.computed(none), 0);
        }
        m.statement(COMPUTE, 5, 2, PLUS, 1);
        Check.due("13: one that came behind the run", m.computed(1), 0);
        Check.due("13: the others stay", m.computed(0), 2);
    }

    private static void promise14Count() {
        LazyMotion m = diamond();
        Check.due("14: blocks", m.count(0), 4);
        Check.due("14: expressions", m.count(1), 1);
        Check.due("14: no plan", m.count(2), 0);
        m.plan();
        Check.due("14: a plan", m.count(2), 1);
        Check.due("14: no run", m.count(3), 0);
        m.run(true, 0, 0, 0);
        Check.due("14: blocks gone through", m.count(3), 3);
        m.block();
        Check.due("14: the latest run stays", m.count(3), 3);
        Check.due("14: a plan that is invalid was made", m.count(2), 1);
        for (int bad : new int[] {-1, 4, FEW, MANY}) {
            Check.throwing("14: no such count", INDEX, () -> m.count(bad));
        }
    }

    private static void planGoesInvalid() {
        LazyMotion m = diamond();
        m.plan();
        m.block();
        Check.throwing("2: a new block makes the plan invalid", STATE, () -> m.set(0, 0));
        m.plan();
        m.statement(OUT, 0, 0, 0, 0);
        Check.throwing("2: a statement makes the plan invalid", STATE, () -> m.put(0, 1));
        m.plan();
        m.end(0, STOP, 0, 0, 0);
        Check.throwing("2: an end makes the plan invalid", STATE, () -> m.run(true, 0, 0, 0));
        m.plan();
        Check.throwing("3: a wrong statement", ARGUMENT, () -> m.statement(9, 0, 0, 0, 0));
        Check.due("3: leaves the plan", m.set(0, 2), 1);
    }
}
