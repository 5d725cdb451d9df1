import java.util.Arrays;
import java.util.NoSuchElementException;

/**
 * Moves computations in a program of blocks to where they are needed latest and made least often, and runs the
 * program as it was and as it is now side by side. The document's promises say what each call answers and throws;
 * where a call could throw two exceptions, it throws the one that its promise names first.
 */
public final class LazyMotion {
    /** Nothing there; the outside of a program. */
    public static final int NONE = -1;

    private static final int BLOCK_LIMIT = 16;
    private static final int STATEMENT_LIMIT = 5;
    private static final int EXPRESSION_LIMIT = 24;
    private static final int VARIABLES = 6;
    private static final int OPERATORS = 5;
    private static final int RUN_LIMIT = 200;
    private static final int OUT_LIMIT = 100;
    private static final int SMALLEST_SHORT = -32768;
    private static final int GREATEST_SHORT = 32767;

    private static final int COPY = 0;
    private static final int SET = 1;
    private static final int COMPUTE = 2;
    private static final int OUT = 3;

    private static final int STOP = 0;
    private static final int GO = 1;
    private static final int BRANCH = 2;

    /** Every round but the last takes a bit from some block's set, so no flow needs more rounds than there are bits. */
    private static final int ROUND_LIMIT = BLOCK_LIMIT * EXPRESSION_LIMIT + 1;

    private final Program program;
    private final Motion motion;
    private final Machine machine;
    private boolean planned;
    private int plans;

    public LazyMotion() {
        Program empty = new Program();
        Motion still = new Motion(empty);
        program = empty;
        motion = still;
        machine = new Machine(empty, still);
        planned = false;
        plans = 0;
    }

    public int block() throws IllegalStateException {
        if (program.blocks >= BLOCK_LIMIT) {
            throw new IllegalStateException("there are 16 blocks");
        }
        planned = false;
        return program.addBlock();
    }

    public int statement(int kind, int x, int a, int b, int c) throws IllegalArgumentException, IllegalStateException {
        if (!isStatement(kind, x, a, b, c)) {
            throw new IllegalArgumentException("no such statement");
        }
        if (!program.takesStatement()) {
            throw new IllegalStateException("there is no block, or it has five statements");
        }
        int operand = a;
        if (kind == COMPUTE) {
            operand = program.findOrAddExpression(a, b, c);
            if (operand == NONE) {
                throw new IllegalStateException("there are 24 expressions");
            }
        }
        planned = false;
        return program.addStatement(kind, x, operand);
    }

    public int end(int block, int kind, int x, int a, int b) throws IllegalArgumentException {
        if (!program.hasBlock(block) || !isEnd(kind, x, a, b)) {
            throw new IllegalArgumentException("no such block or end");
        }
        planned = false;
        if (kind == STOP) {
            return program.changeEnd(block, 0, NONE, NONE);
        }
        if (kind == GO) {
            return program.changeEnd(block, 0, a, a);
        }
        return program.changeEnd(block, x, a, b);
    }

    public int plan() throws IllegalStateException, UnsupportedOperationException {
        if (program.blocks == 0) {
            throw new IllegalStateException("there is no block");
        }
        if (!program.isWhole()) {
            throw new UnsupportedOperationException("a block goes to one that there is not");
        }
        motion.findSets();
        planned = true;
        plans++;
        return motion.countMoved();
    }

    public long set(int b, int what) throws IllegalStateException, IndexOutOfBoundsException {
        if (!planned) {
            throw new IllegalStateException("the program was not planned as it is");
        }
        if (!program.hasBlock(b) || what < 0 || what > Motion.TAKEN_OUT) {
            throw new IndexOutOfBoundsException("no such block or set");
        }
        return motion.setOf(b, what);
    }

    public long put(int a, int b) throws IllegalStateException, NoSuchElementException {
        if (!planned) {
            throw new IllegalStateException("the program was not planned as it is");
        }
        if (!motion.hasEdge(a, b)) {
            throw new NoSuchElementException("no such edge");
        }
        return motion.putOn(a, b);
    }

    public int expression(int y, int op, int z) throws NoSuchElementException {
        int number = program.findExpression(y, op, z);
        if (number == NONE) {
            throw new NoSuchElementException("no such expression");
        }
        return number;
    }

    public int run(boolean fresh, int a, int b, int c) throws IllegalStateException {
        // No block needs no test of its own: what was never planned has no valid plan.
        if (!planned) {
            throw new IllegalStateException("the program was not planned as it is");
        }
        machine.reset(a, b, c);
        machine.goThrough(fresh);
        return machine.computations;
    }

    public int outs() {
        return machine.given;
    }

    public int out(int i) throws IndexOutOfBoundsException {
        if (i < 0 || i >= OUT_LIMIT || i >= machine.given) {
            throw new IndexOutOfBoundsException("no such number");
        }
        return machine.numbers[i];
    }

    public int variable(int x) throws IndexOutOfBoundsException {
        if (!isVariable(x)) {
            throw new IndexOutOfBoundsException("no such variable");
        }
        return machine.variables[x];
    }

    public int computed(int e) {
        if (e < 0 || e >= EXPRESSION_LIMIT) {
            return 0;
        }
        return machine.made[e];
    }

    public int count(int what) throws IndexOutOfBoundsException {
        switch (what) {
            case 0:
                return program.blocks;
            case 1:
                return program.expressions;
            case 2:
                return plans;
            case 3:
                return machine.passed;
            default:
                throw new IndexOutOfBoundsException("no such count");
        }
    }

    private static boolean isStatement(int kind, int x, int a, int b, int c) {
        if (!isVariable(x)) {
            return false;
        }
        switch (kind) {
            case COPY:
                return isVariable(a);
            case SET:
                return a >= SMALLEST_SHORT && a <= GREATEST_SHORT;
            case COMPUTE:
                return isVariable(a) && b >= 0 && b < OPERATORS && isVariable(c);
            case OUT:
                return true;
            default:
                return false;
        }
    }

    private static boolean isEnd(int kind, int x, int a, int b) {
        switch (kind) {
            case STOP:
                return true;
            case GO:
                return mayBeBlock(a);
            case BRANCH:
                return isVariable(x) && mayBeBlock(a) && mayBeBlock(b);
            default:
                return false;
        }
    }

    private static boolean isVariable(int x) {
        return x >= 0 && x < VARIABLES;
    }

    private static boolean mayBeBlock(int b) {
        return b >= 0 && b < BLOCK_LIMIT;
    }

    /** Blocks, statements, ends and expressions, in rows that are made once. */
    private static final class Program {
        int blocks = 0;
        int expressions = 0;

        final int[] sizes = new int[BLOCK_LIMIT];
        final int[] kinds = new int[BLOCK_LIMIT * STATEMENT_LIMIT];
        final int[] targets = new int[BLOCK_LIMIT * STATEMENT_LIMIT];
        /** The y of a COPY, the n of a SET, the expression of a COMPUTE. */
        final int[] operands = new int[BLOCK_LIMIT * STATEMENT_LIMIT];

        /** A STOP has NONE as both successors, a GO the same one twice: so each end is a branch. */
        final int[] tested = new int[BLOCK_LIMIT];
        final int[] firsts = new int[BLOCK_LIMIT];
        final int[] seconds = new int[BLOCK_LIMIT];

        final int[] lefts = new int[EXPRESSION_LIMIT];
        final int[] operators = new int[EXPRESSION_LIMIT];
        final int[] rights = new int[EXPRESSION_LIMIT];
        /** For each variable the expressions that have it as y or z. */
        final long[] users = new long[VARIABLES];

        boolean hasBlock(int b) {
            return b >= 0 && b < blocks;
        }

        int addBlock() {
            int b = blocks;
            blocks++;
            changeEnd(b, 0, NONE, NONE);
            return b;
        }

        int changeEnd(int b, int x, int first, int second) {
            tested[b] = x;
            firsts[b] = first;
            seconds[b] = second;
            if (first == NONE) {
                return 0;
            }
            return first == second ? 1 : 2;
        }

        boolean takesStatement() {
            return blocks > 0 && sizes[blocks - 1] < STATEMENT_LIMIT;
        }

        int addStatement(int kind, int x, int operand) {
            int b = blocks - 1;
            int at = b * STATEMENT_LIMIT + sizes[b];
            kinds[at] = kind;
            targets[at] = x;
            operands[at] = operand;
            sizes[b]++;
            return sizes[b];
        }

        int findExpression(int y, int op, int z) {
            for (int e = 0; e < expressions; e++) {
                if (lefts[e] == y && operators[e] == op && rights[e] == z) {
                    return e;
                }
            }
            return NONE;
        }

        /** NONE, if it would be one too many. */
        int findOrAddExpression(int y, int op, int z) {
            int e = findExpression(y, op, z);
            if (e != NONE || expressions >= EXPRESSION_LIMIT) {
                return e;
            }
            e = expressions;
            expressions++;
            lefts[e] = y;
            operators[e] = op;
            rights[e] = z;
            users[y] |= 1L << e;
            users[z] |= 1L << e;
            return e;
        }

        boolean isWhole() {
            for (int b = 0; b < blocks; b++) {
                if (firsts[b] >= blocks || seconds[b] >= blocks) {
                    return false;
                }
            }
            return true;
        }

        int valueOf(int e, int[] variables) {
            int y = variables[lefts[e]];
            int z = variables[rights[e]];
            switch (operators[e]) {
                case 0:
                    return y + z;
                case 1:
                    return y - z;
                case 2:
                    return y * z;
                case 3:
                    return y & z;
                default:
                    return y < z ? 1 : 0;
            }
        }
    }

    /** The sets of planning: for each block a row of bits, one for each expression. */
    private static final class Motion {
        static final int THERE_BEFORE = 0;
        static final int THERE_BEHIND = 1;
        static final int WANTED_BEFORE = 2;
        static final int WANTED_BEHIND = 3;
        static final int LATE_BEFORE = 4;
        static final int TAKEN_OUT = 5;

        private final Program program;
        private final boolean[] reached = new boolean[BLOCK_LIMIT];
        private final long[] changes = new long[BLOCK_LIMIT];
        private final long[] asks = new long[BLOCK_LIMIT];
        private final long[] leaves = new long[BLOCK_LIMIT];
        private final long[] thereBefore = new long[BLOCK_LIMIT];
        private final long[] thereBehind = new long[BLOCK_LIMIT];
        private final long[] wantedBefore = new long[BLOCK_LIMIT];
        private final long[] wantedBehind = new long[BLOCK_LIMIT];
        private final long[] lateBefore = new long[BLOCK_LIMIT];
        final long[] takenOut = new long[BLOCK_LIMIT];

        Motion(Program program) {
            this.program = program;
        }

        void findSets() {
            findReached();
            for (int b = 0; b < program.blocks; b++) {
                readBlock(b);
                fillSets(b);
            }
            flowThere();
            flowWanted();
            flowLate();
            for (int b = 0; b < program.blocks; b++) {
                takenOut[b] = asks[b] & ~lateBefore[b];
            }
        }

        int countMoved() {
            long moved = 0;
            for (int b = 0; b < program.blocks; b++) {
                moved |= takenOut[b];
            }
            return Long.bitCount(moved);
        }

        long setOf(int b, int what) {
            switch (what) {
                case THERE_BEFORE:
                    return thereBefore[b];
                case THERE_BEHIND:
                    return thereBehind[b];
                case WANTED_BEFORE:
                    return wantedBefore[b];
                case WANTED_BEHIND:
                    return wantedBehind[b];
                case LATE_BEFORE:
                    return lateBefore[b];
                default:
                    return takenOut[b];
            }
        }

        boolean hasEdge(int a, int b) {
            if (a == NONE) {
                return b == 0;
            }
            if (!program.hasBlock(a) || !reached[a] || b == NONE) {
                return false;
            }
            return program.firsts[a] == b || program.seconds[a] == b;
        }

        long putOn(int a, int b) {
            return laterOn(a, b) & ~lateBefore[b];
        }

        private long laterOn(int a, int b) {
            if (a == NONE) {
                return wantedBefore[b];
            }
            long earliest = wantedBefore[b] & ~thereBehind[a] & (changes[a] | ~wantedBehind[a]);
            return earliest | (lateBefore[a] & ~asks[a]);
        }

        private void findReached() {
            for (int b = 0; b < BLOCK_LIMIT; b++) {
                reached[b] = b == 0;
            }
            boolean grows = true;
            for (int round = 0; grows && round < BLOCK_LIMIT; round++) {
                grows = false;
                for (int b = 0; b < program.blocks; b++) {
                    if (reached[b]) {
                        grows |= reach(program.firsts[b]);
                        grows |= reach(program.seconds[b]);
                    }
                }
            }
        }

        private boolean reach(int b) {
            if (b == NONE || reached[b]) {
                return false;
            }
            reached[b] = true;
            return true;
        }

        private void readBlock(int b) {
            changes[b] = 0;
            asks[b] = 0;
            leaves[b] = 0;
            if (!reached[b]) {
                return;
            }
            int start = b * STATEMENT_LIMIT;
            for (int at = start; at < start + program.sizes[b]; at++) {
                if (program.kinds[at] == COMPUTE) {
                    // Before the target counts as changed: a computation reads y and z first, even if x is one of them.
                    long bit = 1L << program.operands[at];
                    asks[b] |= bit & ~changes[b];
                    leaves[b] |= bit;
                }
                if (program.kinds[at] != OUT) {
                    long spoiled = program.users[program.targets[at]];
                    changes[b] |= spoiled;
                    leaves[b] &= ~spoiled;
                }
            }
        }

        /** All sets are the greatest that fit, so they start with everything and only get smaller. */
        private void fillSets(int b) {
            long start = reached[b] ? (1L << program.expressions) - 1 : 0;
            thereBefore[b] = start;
            thereBehind[b] = start;
            wantedBefore[b] = start;
            wantedBehind[b] = start;
            lateBefore[b] = start;
        }

        private void flowThere() {
            thereBefore[0] = 0;
            boolean shrinks = true;
            for (int round = 0; shrinks && round < ROUND_LIMIT; round++) {
                shrinks = false;
                for (int b = 0; b < program.blocks; b++) {
                    if (reached[b]) {
                        thereBehind[b] = leaves[b] | (thereBefore[b] & ~changes[b]);
                        shrinks |= narrow(thereBefore, program.firsts[b], thereBehind[b]);
                        shrinks |= narrow(thereBefore, program.seconds[b], thereBehind[b]);
                    }
                }
            }
        }

        private void flowWanted() {
            boolean shrinks = true;
            for (int round = 0; shrinks && round < ROUND_LIMIT; round++) {
                shrinks = false;
                for (int b = program.blocks - 1; b >= 0; b--) {
                    if (reached[b]) {
                        wantedBehind[b] = wantedByAll(program.firsts[b], program.seconds[b]);
                        shrinks |= narrow(wantedBefore, b, asks[b] | (wantedBehind[b] & ~changes[b]));
                    }
                }
            }
        }

        private long wantedByAll(int first, int second) {
            if (first == NONE || second == NONE) {
                return 0;
            }
            return wantedBefore[first] & wantedBefore[second];
        }

        private void flowLate() {
            lateBefore[0] = laterOn(NONE, 0);
            boolean shrinks = true;
            for (int round = 0; shrinks && round < ROUND_LIMIT; round++) {
                shrinks = false;
                for (int b = 0; b < program.blocks; b++) {
                    if (reached[b]) {
                        shrinks |= narrowLate(b, program.firsts[b]);
                        shrinks |= narrowLate(b, program.seconds[b]);
                    }
                }
            }
        }

        private boolean narrowLate(int a, int b) {
            return b != NONE && narrow(lateBefore, b, laterOn(a, b));
        }

        private static boolean narrow(long[] sets, int b, long allowed) {
            if (b == NONE) {
                return false;
            }
            long old = sets[b];
            sets[b] = old & allowed;
            return sets[b] != old;
        }
    }

    /** What the latest run did, and the means to make another. */
    private static final class Machine {
        int computations = 0;
        int given = 0;
        int passed = 0;
        final int[] variables = new int[VARIABLES];
        final int[] made = new int[EXPRESSION_LIMIT];
        final int[] numbers = new int[OUT_LIMIT];

        private final Program program;
        private final Motion motion;
        /** For every expression one: that of an expression which is not moved is never taken. */
        private final int[] temporaries = new int[EXPRESSION_LIMIT];

        Machine(Program program, Motion motion) {
            this.program = program;
            this.motion = motion;
        }

        void reset(int a, int b, int c) {
            computations = 0;
            given = 0;
            Arrays.fill(variables, 0);
            Arrays.fill(made, 0);
            Arrays.fill(temporaries, 0);
            variables[0] = a;
            variables[1] = b;
            variables[2] = c;
        }

        void goThrough(boolean fresh) {
            int from = NONE;
            int at = 0;
            int steps = 0;
            for (; at != NONE && steps < RUN_LIMIT; steps++) {
                if (fresh) {
                    goAlong(motion.putOn(from, at));
                }
                goThroughBlock(at, fresh ? motion.takenOut[at] : 0);
                from = at;
                at = variables[program.tested[at]] != 0 ? program.firsts[at] : program.seconds[at];
            }
            passed = steps;
        }

        private void goAlong(long put) {
            for (int e = 0; e < program.expressions; e++) {
                if ((put >> e & 1) != 0) {
                    compute(e);
                }
            }
        }

        private void goThroughBlock(int b, long taken) {
            long waiting = taken;
            int start = b * STATEMENT_LIMIT;
            for (int at = start; at < start + program.sizes[b]; at++) {
                int operand = program.operands[at];
                if (program.kinds[at] == COMPUTE) {
                    // Only the first one takes the temporary; a later one may find y or z changed.
                    boolean take = (waiting >> operand & 1) != 0;
                    variables[program.targets[at]] = take ? temporaries[operand] : compute(operand);
                    waiting &= ~(1L << operand);
                } else {
                    goThroughSimple(program.kinds[at], program.targets[at], operand);
                }
            }
        }

        private void goThroughSimple(int kind, int x, int operand) {
            if (kind == COPY) {
                variables[x] = variables[operand];
            } else if (kind == SET) {
                variables[x] = operand;
            } else {
                giveOut(variables[x]);
            }
        }

        private void giveOut(int number) {
            if (given < OUT_LIMIT) {
                numbers[given] = number;
            }
            given++;
        }

        private int compute(int e) {
            computations++;
            made[e]++;
            temporaries[e] = program.valueOf(e, variables);
            return temporaries[e];
        }
    }
}
