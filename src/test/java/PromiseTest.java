/** Each sentence of the promises, above all those that name a boundary case, by a test of its own. */
public final class PromiseTest extends Sentences {
    public static void main(String[] args) {
        newObject();
        block();
        statement();
        end();
        plan();
        setAndPut();
        expression();
        run();
        outs();
        variableAndComputed();
        count();
        Check.end("PromiseTest");
    }

    private static void newObject() {
        Check.sentence("1: No blocks", PromiseTest::noBlocks);
        Check.sentence("1: nothing planned", PromiseTest::nothingPlanned);
    }

    private static void block() {
        Check.sentence("2: A new block without statements", PromiseTest::newBlockIsEmpty);
        Check.sentence("2: which STOPs", PromiseTest::newBlockStops);
        Check.sentence("2: its number", PromiseTest::blockNumber);
        Check.sentence("2: Statements go to it until there is a newer one", PromiseTest::statementsGoToLatest);
        Check.sentence("2: IllegalStateException, when there are 16", PromiseTest::block17);
        Check.sentence("2: (Whatever changes the program makes the plan invalid.)", PromiseTest::changeMakesInvalid);
    }

    private static void statement() {
        Check.sentence("3: A statement at the end of the latest block", PromiseTest::atTheEnd);
        Check.sentence("3: how many it has", PromiseTest::howManyStatements);
        Check.sentence("3: kind 0 COPY (x, a is y)", PromiseTest::copy);
        Check.sentence("3: 1 SET (x, a is n)", PromiseTest::set);
        Check.sentence("3: 2 COMPUTE (x, a is y, b the operator, c is z)", PromiseTest::compute);
        Check.sentence("3: 3 OUT (x)", PromiseTest::giveOut);
        Check.sentence("3: What is not needed is not looked at", PromiseTest::statementLooksAtNeeded);
        Check.sentence("3: IllegalArgumentException, when kind is none of these", PromiseTest::statementKind);
        Check.sentence("3: IllegalArgumentException, when what it needs is none of these", PromiseTest::statementNeeds);
        Check.sentence("3: IllegalStateException, when there is no block", PromiseTest::statementWithoutBlock);
        Check.sentence("3: IllegalStateException, when it has five statements", PromiseTest::statement6);
        Check.sentence("3: IllegalStateException, when an expression would be the 25th", PromiseTest::expression25);
        Check.sentence("3: IllegalArgumentException; IllegalStateException (in this order)",
                PromiseTest::statementOrder);
    }

    private static void end() {
        Check.sentence("4: The end of a block (in place of the one that it has)", PromiseTest::endInPlace);
        Check.sentence("4: kind 0 STOP, 1 GO (a), 2 BRANCH on x (a, else b)", PromiseTest::endKinds);
        Check.sentence("4: how many successors it has (1 when both are the same)", PromiseTest::howManySuccessors);
        Check.sentence("4: What is not needed is not looked at", PromiseTest::endLooksAtNeeded);
        Check.sentence("4: IllegalArgumentException, when there is no such block", PromiseTest::endOfNoBlock);
        Check.sentence("4: IllegalArgumentException, when there is no such kind", PromiseTest::endKind);
        Check.sentence("4: IllegalArgumentException, when there is no such variable", PromiseTest::endVariable);
        Check.sentence("4: IllegalArgumentException, when a or b is not 0 .. 15", PromiseTest::endTargets);
    }

    private static void plan() {
        Check.sentence("5: Plans (also when the program was planned as it is)", PromiseTest::plansAgain);
        Check.sentence("5: how many expressions are moved", PromiseTest::howManyMoved);
        Check.sentence("5: IllegalStateException, when there is no block", PromiseTest::planWithoutBlock);
        Check.sentence("5: UnsupportedOperationException, when a block goes to one that there is not",
                PromiseTest::planWithoutTarget);
        Check.sentence("5: (which can be reached or not)", PromiseTest::planUnreached);
    }

    private static void setAndPut() {
        Check.sentence("6: A set for block b, a bit for each expression", PromiseTest::bits);
        Check.sentence("6: there before (0), behind (1), wanted before (2), behind (3), late before (4), "
                + "taken out of b (5)", PromiseTest::whichSet);
        Check.sentence("6: 0 for a block that can't be reached", PromiseTest::setOfUnreached);
        Check.sentence("6: IllegalStateException, when the program was not planned as it is",
                PromiseTest::setUnplanned);
        Check.sentence("6: IndexOutOfBoundsException, when there is no such block", PromiseTest::setOfNoBlock);
        Check.sentence("6: IndexOutOfBoundsException, when there is no such what", PromiseTest::setOfNoWhat);
        Check.sentence("7: What is put on the edge from a to b", PromiseTest::putOnEdge);
        Check.sentence("7: (NONE: from outside)", PromiseTest::putOutside);
        Check.sentence("7: IllegalStateException as for set", PromiseTest::putUnplanned);
        Check.sentence("7: NoSuchElementException, when there is no such edge", PromiseTest::putOnNoEdge);
        Check.sentence("7: between blocks that can be reached", PromiseTest::putUnreached);
    }

    private static void expression() {
        Check.sentence("8: The number of an expression", PromiseTest::expressionNumber);
        Check.sentence("8: NoSuchElementException, when there is none with this operator, y and z",
                PromiseTest::noSuchExpression);
    }

    private static void run() {
        Check.sentence("9: Runs the program (fresh false) or the new one", PromiseTest::runsBoth);
        Check.sentence("9: with all variables 0 but 0, 1 and 2, which are a, b and c", PromiseTest::startOfRun);
        Check.sentence("9: how many computations were made (in statements and on edges)", PromiseTest::computations);
        Check.sentence("9: It stops behind 200 blocks, too", PromiseTest::blocks200);
        Check.sentence("9: It stops behind 200 blocks, and goes along no edge from there", PromiseTest::edgeBehind200);
        Check.sentence("9: IllegalStateException, when there is no block", PromiseTest::runWithoutBlock);
        Check.sentence("9: IllegalStateException, when the program was not planned as it is",
                PromiseTest::runUnplanned);
    }

    private static void outs() {
        Check.sentence("10: How many numbers the latest run gave OUT", PromiseTest::howManyOut);
        Check.sentence("11: The i-th of them (from 0)", PromiseTest::outNumbers);
        Check.sentence("11: of the first hundred", PromiseTest::firstHundred);
        Check.sentence("11: IndexOutOfBoundsException, when there is none", PromiseTest::noSuchOut);
    }

    private static void variableAndComputed() {
        Check.sentence("12: The value of a variable at the end of the latest run", PromiseTest::valueAtEnd);
        Check.sentence("12: 0 when there was none", PromiseTest::valueWithoutRun);
        Check.sentence("12: IndexOutOfBoundsException, when there is no such variable", PromiseTest::noSuchVariable);
        Check.sentence("13: How often the latest run made the computation of an expression", PromiseTest::howOften);
        Check.sentence("13: (not where it took a temporary)", PromiseTest::notWhereTaken);
        Check.sentence("13: 0 when there is none of this number", PromiseTest::noneOfThisNumber);
    }

    private static void count() {
        Check.sentence("14: How many blocks (0) there are", PromiseTest::countBlocks);
        Check.sentence("14: expressions (1)", PromiseTest::countExpressions);
        Check.sentence("14: plans that were made (2)", PromiseTest::countPlans);
        Check.sentence("14: and blocks that the latest run went through (3)", PromiseTest::countPassed);
        Check.sentence("14: IndexOutOfBoundsException, for another what", PromiseTest::noSuchCount);
    }

    private static void noBlocks() {
        LazyMotion m = new LazyMotion();
        for (int what = 0; what < 4; what++) {
            Check.due("count(" + what + ")", m.count(what), 0);
        }
        Check.due("outs()", m.outs(), 0);
        Check.throwing("end() of block 0", ARGUMENT, () -> m.end(0, STOP, 0, 0, 0));
        Check.throwing("statement()", STATE, () -> m.statement(OUT, 0, 0, 0, 0));
        blocks(3);
        Check.due("another object's blocks are not its own", m.count(0), 0);
        Check.due("the first block", m.block(), 0);
    }

    private static void nothingPlanned() {
        refused(STATE, "set(0, 0)", LazyMotion::new, o -> o.set(0, 0));
        refused(STATE, "put(NONE, 0)", LazyMotion::new, o -> o.put(NONE, 0));
        refused(STATE, "run(false, 0, 0, 0)", LazyMotion::new, o -> o.run(false, 0, 0, 0));
        refused(STATE, "run(true, 0, 0, 0)", LazyMotion::new, o -> o.run(true, 0, 0, 0));
        refused(STATE, "plan()", LazyMotion::new, LazyMotion::plan);
    }

    private static void newBlockIsEmpty() {
        LazyMotion m = chain(2);
        Check.due("plan()", m.plan(), 0);
        Check.due("computations", m.run(true, 1, 2, 3), 0);
        Check.due("numbers out", m.outs(), 0);
        Check.due("its first statement", m.statement(OUT, 0, 0, 0, 0), 1);
    }

    private static void newBlockStops() {
        LazyMotion m = diamond();
        m.end(3, GO, 0, 4, 0);
        m.block();
        m.block();
        m.plan();
        m.run(false, 0, 0, 0);
        Check.due("blocks gone through, the new one as the last", m.count(3), 4);
        Check.throwing("put(4, 5)", ELEMENT, () -> m.put(4, 5));
    }

    private static void blockNumber() {
        LazyMotion m = new LazyMotion();
        for (int b = 0; b < 16; b++) {
            Check.due("block()", m.block(), b);
        }
    }

    /** Five to each of two blocks; an end for the older one does not make it the latest again. */
    private static void statementsGoToLatest() {
        LazyMotion m = blocks(1);
        m.statement(SET, 3, 1, 0, 0);
        m.statement(OUT, 3, 0, 0, 0);
        m.block();
        m.end(0, GO, 0, 1, 0);
        Check.due("the newer one's first", m.statement(SET, 3, 2, 0, 0), 1);
        Check.due("the newer one's second", m.statement(OUT, 3, 0, 0, 0), 2);
        m.plan();
        m.run(false, 0, 0, 0);
        Check.due("numbers out", m.outs(), 2);
        Check.due("the older one's", m.out(0), 1);
        Check.due("the newer one's", m.out(1), 2);
        m.end(0, STOP, 0, 0, 0);
        m.plan();
        m.run(false, 0, 0, 0);
        Check.due("the older one's alone", m.outs(), 1);
    }

    private static LazyMotion planned16() {
        LazyMotion m = chain(16);
        m.statement(COMPUTE, 3, 0, PLUS, 1);
        m.plan();
        m.run(true, 1, 2, 3);
        return m;
    }

    private static void block17() {
        Check.due("the 16th", blocks(15).block(), 15);
        refused(STATE, "block() with 16 there", () -> blocks(16), LazyMotion::block);
        refused(STATE, "block() with 16 there and a plan", PromiseTest::planned16, LazyMotion::block);
    }

    private static void changeMakesInvalid() {
        LazyMotion m = plannedDiamond();
        m.block();
        Check.throwing("set() behind block()", STATE, () -> m.set(0, 0));
        Check.throwing("put() behind block()", STATE, () -> m.put(NONE, 0));
        Check.throwing("run() behind block()", STATE, () -> m.run(false, 0, 0, 0));
        for (int kind = COPY; kind <= OUT; kind++) {
            m.plan();
            Check.due("set() behind plan()", m.set(0, WANTED_BEFORE), 1);
            m.statement(kind, 0, 1, 0, 1);
            Check.throwing("set() behind statement() of kind " + kind, STATE, () -> m.set(0, 0));
            Check.throwing("put() behind statement() of kind " + kind, STATE, () -> m.put(NONE, 0));
            Check.throwing("run() behind statement() of kind " + kind, STATE, () -> m.run(true, 0, 0, 0));
        }
        for (int kind = BRANCH; kind >= STOP; kind--) {
            m.plan();
            m.end(0, kind, 1, 1, 2);
            Check.throwing("set() behind end() of kind " + kind, STATE, () -> m.set(0, 0));
            Check.throwing("put() behind end() of kind " + kind, STATE, () -> m.put(NONE, 0));
            Check.throwing("run() behind end() of kind " + kind, STATE, () -> m.run(false, 0, 0, 0));
        }
    }

    private static void atTheEnd() {
        LazyMotion m = blocks(1);
        m.statement(OUT, 0, 0, 0, 0);
        m.statement(SET, 0, 5, 0, 0);
        m.statement(OUT, 0, 0, 0, 0);
        m.plan();
        m.run(false, 4, 0, 0);
        Check.due("before SET", m.out(0), 4);
        Check.due("behind SET", m.out(1), 5);
    }

    private static void howManyStatements() {
        LazyMotion m = new LazyMotion();
        for (int b = 0; b < 2; b++) {
            m.block();
            for (int i = 1; i <= 5; i++) {
                Check.due("statement() in block " + b, m.statement(i % 4, 0, 0, 0, 0), i);
            }
        }
    }

    private static LazyMotion oneStatement(int kind, int x, int a, int b, int c) {
        LazyMotion m = blocks(1);
        m.statement(kind, x, a, b, c);
        m.plan();
        m.run(false, 10, 20, 30);
        return m;
    }

    private static void copy() {
        Check.due("x", oneStatement(COPY, 3, 1, 0, 2).variable(3), 20);
        Check.due("y stays", oneStatement(COPY, 3, 1, 0, 2).variable(1), 20);
        Check.due("x of itself", oneStatement(COPY, 2, 2, 0, 0).variable(2), 30);
        Check.due("the last variable's", oneStatement(COPY, 0, 5, 0, 0).variable(0), 0);
        Check.due("expressions", oneStatement(COPY, 3, 1, 0, 2).count(1), 0);
    }

    private static void set() {
        Check.due("the least", oneStatement(SET, 0, -32768, 0, 0).variable(0), -32768);
        Check.due("the greatest", oneStatement(SET, 5, 32767, 0, 0).variable(5), 32767);
        Check.due("a number, no variable", oneStatement(SET, 3, 1, 0, 0).variable(3), 1);
    }

    private static void compute() {
        Check.due("y minus z", oneStatement(COMPUTE, 3, 0, MINUS, 1).variable(3), -10);
        Check.due("x is y", oneStatement(COMPUTE, 0, 0, MINUS, 1).variable(0), -10);
        Check.due("x is z", oneStatement(COMPUTE, 1, 0, MINUS, 1).variable(1), -10);
        Check.due("x, y and z are one", oneStatement(COMPUTE, 2, 2, PLUS, 2).variable(2), 60);
        Check.due("expressions", oneStatement(COMPUTE, 3, 0, MINUS, 1).count(1), 1);
    }

    private static void giveOut() {
        Check.due("x", oneStatement(OUT, 2, 0, 0, 0).out(0), 30);
        Check.due("the last variable", oneStatement(OUT, 5, 0, 0, 0).out(0), 0);
        Check.due("x stays", oneStatement(OUT, 2, 0, 0, 0).variable(2), 30);
    }

    private static void statementLooksAtNeeded() {
        for (int free : new int[] {-1, 6, 40000, FEW, MANY}) {
            LazyMotion m = blocks(1);
            Check.due("COPY, b and c " + free, m.statement(COPY, 3, 1, free, free), 1);
            Check.due("SET, b and c " + free, m.statement(SET, 4, 7, free, free), 2);
            Check.due("OUT, a, b and c " + free, m.statement(OUT, 0, free, free, free), 3);
            m.plan();
            m.run(false, 1, 2, 3);
            Check.due("COPY", m.variable(3), 2);
            Check.due("SET", m.variable(4), 7);
            Check.due("OUT", m.out(0), 1);
        }
    }

    private static void statementKind() {
        for (int bad : new int[] {-1, 4, FEW, MANY}) {
            refused(ARGUMENT, "statement() of kind " + bad, PromiseTest::ranDiamond, o -> o.statement(bad, 0, 0, 0, 0));
        }
    }

    private static void statementNeeds() {
        for (int bad : NO_VARIABLES) {
            for (int kind = COPY; kind <= OUT; kind++) {
                int k = kind;
                refused(ARGUMENT, "kind " + k + ", x " + bad, PromiseTest::ranDiamond,
                        o -> o.statement(k, bad, 0, 0, 0));
            }
            refused(ARGUMENT, "COPY, y " + bad, PromiseTest::ranDiamond, o -> o.statement(COPY, 0, bad, 0, 0));
            refused(ARGUMENT, "COMPUTE, y " + bad, PromiseTest::ranDiamond, o -> o.statement(COMPUTE, 0, bad, 0, 0));
            refused(ARGUMENT, "COMPUTE, z " + bad, PromiseTest::ranDiamond, o -> o.statement(COMPUTE, 0, 0, 0, bad));
        }
        for (int bad : new int[] {-1, 5, FEW, MANY}) {
            refused(ARGUMENT, "operator " + bad, PromiseTest::ranDiamond, o -> o.statement(COMPUTE, 0, 0, bad, 0));
        }
        for (int bad : new int[] {-32769, 32768, FEW, MANY}) {
            refused(ARGUMENT, "SET, n " + bad, PromiseTest::ranDiamond, o -> o.statement(SET, 0, bad, 0, 0));
        }
    }

    private static void statementWithoutBlock() {
        for (int kind = COPY; kind <= OUT; kind++) {
            int k = kind;
            refused(STATE, "statement() of kind " + k, LazyMotion::new, o -> o.statement(k, 0, 0, 0, 0));
        }
    }

    /** The latest of two blocks is full, the other one is not. */
    private static LazyMotion fullLatest() {
        LazyMotion m = chain(2);
        for (int i = 0; i < 5; i++) {
            m.statement(OUT, i, 0, 0, 0);
        }
        m.plan();
        m.run(false, 1, 2, 3);
        return m;
    }

    private static void statement6() {
        for (int kind = COPY; kind <= OUT; kind++) {
            int k = kind;
            refused(STATE, "sixth statement() of kind " + k, PromiseTest::fullLatest, o -> o.statement(k, 0, 1, 2, 3));
        }
    }

    private static LazyMotion planned24() {
        LazyMotion m = expressions(24);
        m.end(0, GO, 0, 4, 0);
        m.plan();
        m.run(true, 3, 2, 1);
        return m;
    }

    private static void expression25() {
        LazyMotion m = expressions(23);
        Check.due("the 24th", m.statement(COMPUTE, 5, 4, LESS, 4), 4);
        refused(STATE, "25th expression", PromiseTest::planned24, o -> o.statement(COMPUTE, 5, 4, LESS, 4));
        refused(STATE, "25th, the other order", PromiseTest::planned24, o -> o.statement(COMPUTE, 5, 4, PLUS, 0));
        LazyMotion full = expressions(24);
        Check.due("one of the 24 again", full.statement(COMPUTE, 5, 0, PLUS, 4), 5);
        full.block();
        Check.due("COPY behind 24", full.statement(COPY, 5, 4, LESS, 4), 1);
        Check.due("SET behind 24", full.statement(SET, 5, 4, LESS, 4), 2);
        Check.due("OUT behind 24", full.statement(OUT, 5, 4, LESS, 4), 3);
        Check.due("the last of the 24 again", full.statement(COMPUTE, 0, leftOf(23), operatorOf(23), 4), 4);
        Check.due("expressions", full.count(1), 24);
    }

    private static void statementOrder() {
        refused(ARGUMENT, "wrong, and no block", LazyMotion::new, o -> o.statement(OUT, 6, 0, 0, 0));
        refused(ARGUMENT, "wrong, and five statements", PromiseTest::fullLatest, o -> o.statement(4, 0, 0, 0, 0));
        refused(ARGUMENT, "wrong, and 24 expressions", PromiseTest::planned24,
                o -> o.statement(COMPUTE, 6, 4, LESS, 4));
    }

    private static void endInPlace() {
        LazyMotion m = blocks(3);
        m.statement(OUT, 0, 0, 0, 0);
        int[][] ends = {{BRANCH, 0, 1, 2}, {GO, 0, 2, 0}, {BRANCH, 0, 2, 1}, {STOP, 0, 0, 0}, {GO, 0, 1, 0}};
        int[] passed = {2, 2, 2, 1, 2};
        int[] given = {0, 1, 1, 0, 0};
        for (int i = 0; i < ends.length; i++) {
            m.end(0, ends[i][0], ends[i][1], ends[i][2], ends[i][3]);
            m.plan();
            m.run(false, 1, 0, 0);
            Check.due("end number " + i + ": blocks gone through", m.count(3), passed[i]);
            Check.due("end number " + i + ": numbers out", m.outs(), given[i]);
        }
    }

    private static void endKinds() {
        LazyMotion m = blocks(1);
        m.block();
        m.statement(SET, 3, 1, 0, 0);
        m.block();
        m.statement(SET, 3, 2, 0, 0);
        m.plan();
        m.run(false, 7, 0, 0);
        Check.due("STOP", m.variable(3), 0);
        m.end(0, GO, 0, 2, 1);
        m.plan();
        m.run(false, 7, 0, 0);
        Check.due("GO", m.variable(3), 2);
        m.end(0, BRANCH, 1, 1, 2);
        m.plan();
        m.run(false, 7, 1, 0);
        Check.due("BRANCH, x is not 0", m.variable(3), 1);
        m.run(false, 7, 0, 7);
        Check.due("BRANCH, x is 0", m.variable(3), 2);
    }

    private static void howManySuccessors() {
        LazyMotion m = blocks(1);
        Check.due("STOP", m.end(0, STOP, 0, 0, 0), 0);
        Check.due("GO", m.end(0, GO, 0, 0, 0), 1);
        Check.due("BRANCH to two", m.end(0, BRANCH, 0, 0, 1), 2);
        Check.due("BRANCH to one", m.end(0, BRANCH, 0, 1, 1), 1);
        Check.due("BRANCH to itself alone", m.end(0, BRANCH, 0, 0, 0), 1);
        Check.due("BRANCH to the last ones", m.end(0, BRANCH, 5, 14, 15), 2);
        Check.due("BRANCH to the last one", m.end(0, BRANCH, 5, 15, 15), 1);
        Check.due("STOP again", m.end(0, STOP, 0, 1, 2), 0);
    }

    private static void endLooksAtNeeded() {
        for (int free : new int[] {-1, 6, 16, FEW, MANY}) {
            LazyMotion m = blocks(2);
            Check.due("STOP, x, a and b " + free, m.end(0, STOP, free, free, free), 0);
            m.plan();
            m.run(false, 0, 0, 0);
            Check.due("blocks gone through", m.count(3), 1);
            Check.due("GO, x and b " + free, m.end(0, GO, free, 1, free), 1);
            m.plan();
            m.run(true, 0, 0, 0);
            Check.due("blocks gone through, with GO", m.count(3), 2);
        }
    }

    private static void endOfNoBlock() {
        for (int bad : new int[] {-1, 4, 5, 15, 16, FEW, MANY}) {
            refused(ARGUMENT, "STOP of block " + bad, PromiseTest::ranDiamond, o -> o.end(bad, STOP, 0, 0, 0));
            refused(ARGUMENT, "GO of block " + bad, PromiseTest::ranDiamond, o -> o.end(bad, GO, 0, 0, 0));
            refused(ARGUMENT, "BRANCH of block " + bad, PromiseTest::ranDiamond, o -> o.end(bad, BRANCH, 0, 0, 1));
        }
        refused(ARGUMENT, "block 0, when there is none", LazyMotion::new, o -> o.end(0, STOP, 0, 0, 0));
        refused(ARGUMENT, "block 16 of 16", () -> blocks(16), o -> o.end(16, STOP, 0, 0, 0));
        Check.due("block 15 of 16", blocks(16).end(15, GO, 0, 0, 0), 1);
    }

    private static void endKind() {
        for (int bad : new int[] {-1, 3, FEW, MANY}) {
            refused(ARGUMENT, "end() of kind " + bad, PromiseTest::ranDiamond, o -> o.end(0, bad, 0, 0, 0));
        }
    }

    private static void endVariable() {
        for (int bad : NO_VARIABLES) {
            refused(ARGUMENT, "BRANCH on " + bad, PromiseTest::ranDiamond, o -> o.end(0, BRANCH, bad, 0, 1));
            refused(ARGUMENT, "BRANCH to one, on " + bad, PromiseTest::ranDiamond, o -> o.end(0, BRANCH, bad, 1, 1));
        }
        for (int x = 0; x < 6; x++) {
            Check.due("BRANCH on " + x, blocks(1).end(0, BRANCH, x, 0, 1), 2);
        }
    }

    private static void endTargets() {
        for (int bad : new int[] {-1, 16, FEW, MANY}) {
            refused(ARGUMENT, "GO to " + bad, PromiseTest::ranDiamond, o -> o.end(0, GO, 0, bad, 0));
            refused(ARGUMENT, "BRANCH, a " + bad, PromiseTest::ranDiamond, o -> o.end(0, BRANCH, 0, bad, 0));
            refused(ARGUMENT, "BRANCH, b " + bad, PromiseTest::ranDiamond, o -> o.end(0, BRANCH, 0, 0, bad));
            refused(ARGUMENT, "BRANCH, both " + bad, PromiseTest::ranDiamond, o -> o.end(0, BRANCH, 0, bad, bad));
        }
        for (int to = 0; to < 16; to++) {
            Check.due("GO to " + to, blocks(1).end(0, GO, 0, to, 0), 1);
        }
    }

    private static void plansAgain() {
        LazyMotion m = diamond();
        Check.due("plan()", m.plan(), 1);
        Check.due("plan() again", m.plan(), 1);
        Check.due("plans", m.count(2), 2);
        Check.due("the same set", m.set(3, TAKEN_OUT), 1);
        Check.due("the same edge", m.put(2, 3), 1);
        m.run(true, 2, 3, 0);
        m.plan();
        Check.due("the latest run stays", m.variable(5), 12);
    }

    private static void howManyMoved() {
        LazyMotion empty = blocks(1);
        Check.due("no expression", empty.plan(), 0);
        empty.statement(COMPUTE, 3, 0, PLUS, 1);
        Check.due("one that stays where it is", empty.plan(), 0);
        LazyMotion three = blocks(1);
        three.statement(COMPUTE, 3, 0, PLUS, 1);
        three.statement(COMPUTE, 3, 0, MINUS, 1);
        three.statement(COMPUTE, 3, 0, TIMES, 1);
        three.end(0, GO, 0, 1, 0);
        three.block();
        three.statement(COMPUTE, 4, 0, TIMES, 1);
        three.statement(COMPUTE, 4, 0, PLUS, 1);
        three.end(1, GO, 0, 2, 0);
        three.block();
        three.statement(COMPUTE, 5, 0, PLUS, 1);
        Check.due("two of three, one of them out of two blocks", three.plan(), 2);
        three.end(0, STOP, 0, 0, 0);
        Check.due("none, when the others can't be reached", three.plan(), 0);
    }

    private static void planWithoutBlock() {
        refused(STATE, "plan()", LazyMotion::new, LazyMotion::plan);
        Check.due("plan() of the smallest program", blocks(1).plan(), 0);
    }

    private static LazyMotion oneWithEnd(int kind, int a, int b) {
        LazyMotion m = blocks(1);
        m.end(0, kind, 0, a, b);
        return m;
    }

    private static void planWithoutTarget() {
        for (int missing : new int[] {1, 2, 15}) {
            refused(UNSUPPORTED, "GO to " + missing, () -> oneWithEnd(GO, missing, 0), LazyMotion::plan);
            refused(UNSUPPORTED, "BRANCH, a " + missing, () -> oneWithEnd(BRANCH, missing, 0), LazyMotion::plan);
            refused(UNSUPPORTED, "BRANCH, b " + missing, () -> oneWithEnd(BRANCH, 0, missing), LazyMotion::plan);
        }
        LazyMotion m = oneWithEnd(GO, 1, 0);
        Check.throwing("plan()", UNSUPPORTED, m::plan);
        Check.throwing("run() behind the refused plan()", STATE, () -> m.run(false, 0, 0, 0));
        Check.due("plans", m.count(2), 0);
        m.block();
        Check.due("plan(), when the block was made", m.plan(), 0);
        m.end(1, GO, 0, 2, 0);
        Check.throwing("plan(), when another one goes wrong", UNSUPPORTED, m::plan);
        m.end(1, STOP, 0, 2, 0);
        Check.due("plan(), when it stops again", m.plan(), 0);
    }

    private static LazyMotion unreachedGoesWrong() {
        LazyMotion m = blocks(2);
        m.end(1, GO, 0, 2, 0);
        return m;
    }

    private static void planUnreached() {
        refused(UNSUPPORTED, "plan(), 1 can't be reached", PromiseTest::unreachedGoesWrong, LazyMotion::plan);
        LazyMotion m = unreachedGoesWrong();
        m.end(0, GO, 0, 1, 0);
        Check.throwing("plan(), 1 can be reached", UNSUPPORTED, m::plan);
        LazyMotion last = blocks(15);
        last.end(14, BRANCH, 0, 0, 15);
        Check.throwing("plan() with 15 blocks", UNSUPPORTED, last::plan);
        last.block();
        Check.due("plan() with 16 blocks", last.plan(), 0);
    }

    private static void bits() {
        LazyMotion m = expressions(24);
        for (int b = 0; b < 4; b++) {
            m.end(b, GO, 0, b + 1, 0);
        }
        m.plan();
        for (int b = 0; b < 5; b++) {
            long behind = (1L << Math.min(24, 5 * b + 5)) - 1;
            long before = (1L << 5 * b) - 1;
            sets(m, b, before, behind, (1L << 24) - 1 & ~before, (1L << 24) - 1 & ~behind,
                    (1L << 24) - 1 & ~before, 0);
        }
    }

    private static void whichSet() {
        LazyMotion m = plannedDiamond();
        sets(m, 0, 0, 1, 1, 0, 1, 0);
        sets(m, 1, 1, 1, 1, 1, 0, 1);
        sets(m, 2, 1, 0, 0, 1, 0, 0);
        sets(m, 3, 0, 1, 1, 0, 0, 1);
    }

    private static void setOfUnreached() {
        LazyMotion m = diamond();
        m.end(0, STOP, 0, 0, 0);
        m.plan();
        for (int b = 1; b < 4; b++) {
            sets(m, b, 0, 0, 0, 0, 0, 0);
        }
        m.end(0, GO, 0, 2, 0);
        m.plan();
        sets(m, 1, 0, 0, 0, 0, 0, 0);
        Check.due("one that can be reached again", m.set(3, WANTED_BEFORE), 1);
    }

    private static LazyMotion changedBehindPlan() {
        LazyMotion m = ranDiamond();
        m.end(0, GO, 0, 2, 0);
        return m;
    }

    private static void setUnplanned() {
        refused(STATE, "set(0, 0), no block", LazyMotion::new, o -> o.set(0, 0));
        refused(STATE, "set(0, 0), never planned", PromiseTest::diamond, o -> o.set(0, 0));
        refused(STATE, "set(0, 0), changed", PromiseTest::changedBehindPlan, o -> o.set(0, 0));
        refused(STATE, "set(9, 0), changed, and no block", PromiseTest::changedBehindPlan, o -> o.set(9, 0));
        refused(STATE, "set(0, 6), changed, and no what", PromiseTest::changedBehindPlan, o -> o.set(0, 6));
    }

    private static void setOfNoBlock() {
        for (int bad : new int[] {-1, 4, 5, 15, 16, FEW, MANY}) {
            refused(INDEX, "set(" + bad + ", 0)", PromiseTest::ranDiamond, o -> o.set(bad, 0));
        }
        refused(INDEX, "set(16, 5) of 16 blocks", PromiseTest::planned16, o -> o.set(16, 5));
        Check.due("set(15, 2) of 16 blocks", planned16().set(15, WANTED_BEFORE), 1);
    }

    private static void setOfNoWhat() {
        for (int bad : new int[] {-1, 6, FEW, MANY}) {
            refused(INDEX, "set(0, " + bad + ")", PromiseTest::ranDiamond, o -> o.set(0, bad));
            refused(INDEX, "set(9, " + bad + ")", PromiseTest::ranDiamond, o -> o.set(9, bad));
        }
        LazyMotion m = diamond();
        m.end(0, STOP, 0, 0, 0);
        m.plan();
        Check.throwing("set(1, 6) of one that can't be reached", INDEX, () -> m.set(1, 6));
    }

    private static void putOnEdge() {
        LazyMotion m = plannedDiamond();
        Check.due("put(0, 1)", m.put(0, 1), 0);
        Check.due("put(0, 2)", m.put(0, 2), 0);
        Check.due("put(1, 3)", m.put(1, 3), 0);
        Check.due("put(2, 3)", m.put(2, 3), 1);
    }

    private static void putOutside() {
        Check.due("put(NONE, 0), where nothing is put", plannedDiamond().put(NONE, 0), 0);
        LazyMotion m = expressions(24);
        for (int b = 0; b < 5; b++) {
            m.end(b, GO, 0, (b + 1) % 5, 0);
        }
        Check.due("moved", m.plan(), 24);
        Check.due("put(NONE, 0), where all is put", m.put(NONE, 0), (1L << 24) - 1);
        Check.due("put(4, 0), around", m.put(4, 0), 0);
        for (int bad : new int[] {-1, 1, 4, 5, 16, FEW, MANY}) {
            refused(ELEMENT, "put(NONE, " + bad + ")", PromiseTest::ranDiamond, o -> o.put(NONE, bad));
        }
    }

    private static void putUnplanned() {
        refused(STATE, "put(NONE, 0), no block", LazyMotion::new, o -> o.put(NONE, 0));
        refused(STATE, "put(NONE, 0), never planned", PromiseTest::diamond, o -> o.put(NONE, 0));
        refused(STATE, "put(0, 2), changed", PromiseTest::changedBehindPlan, o -> o.put(0, 2));
        refused(STATE, "put(9, 9), changed, and no edge", PromiseTest::changedBehindPlan, o -> o.put(9, 9));
    }

    private static void putOnNoEdge() {
        for (int bad : new int[] {-2, 4, 15, 16, FEW, MANY}) {
            refused(ELEMENT, "put(" + bad + ", 0)", PromiseTest::ranDiamond, o -> o.put(bad, 0));
            refused(ELEMENT, "put(0, " + bad + ")", PromiseTest::ranDiamond, o -> o.put(0, bad));
        }
        refused(ELEMENT, "put(0, NONE)", PromiseTest::ranDiamond, o -> o.put(0, NONE));
        refused(ELEMENT, "put(3, NONE), of one that stops", PromiseTest::ranDiamond, o -> o.put(3, NONE));
        refused(ELEMENT, "put(0, 3), two edges away", PromiseTest::ranDiamond, o -> o.put(0, 3));
        refused(ELEMENT, "put(3, 2), the wrong way", PromiseTest::ranDiamond, o -> o.put(3, 2));
        refused(ELEMENT, "put(0, 0)", PromiseTest::ranDiamond, o -> o.put(0, 0));
    }

    private static LazyMotion plannedPart() {
        LazyMotion m = diamond();
        m.end(0, GO, 0, 2, 0);
        m.plan();
        return m;
    }

    private static void putUnreached() {
        refused(ELEMENT, "put(1, 3), 1 can't be reached", PromiseTest::plannedPart, o -> o.put(1, 3));
        refused(ELEMENT, "put(0, 1), as it was", PromiseTest::plannedPart, o -> o.put(0, 1));
        LazyMotion m = plannedPart();
        Check.due("put(0, 2)", m.put(0, 2), 0);
        m.end(0, BRANCH, 0, 1, 2);
        m.plan();
        Check.due("put(1, 3), 1 can be reached again", m.put(1, 3), 0);
    }

    private static void expressionNumber() {
        LazyMotion m = expressions(24);
        for (int e = 0; e < 24; e++) {
            Check.due("without a plan", m.expression(leftOf(e), operatorOf(e), 4), e);
        }
        LazyMotion last = blocks(2);
        last.statement(COMPUTE, 0, 5, LESS, 5);
        Check.due("of a block that can't be reached", last.expression(5, LESS, 5), 0);
    }

    private static void noSuchExpression() {
        refused(ELEMENT, "expression(0, 0, 0), none at all", LazyMotion::new, o -> o.expression(0, 0, 0));
        refused(ELEMENT, "the other order", PromiseTest::ranDiamond, o -> o.expression(1, PLUS, 0));
        refused(ELEMENT, "another y", PromiseTest::ranDiamond, o -> o.expression(2, PLUS, 1));
        refused(ELEMENT, "another operator", PromiseTest::ranDiamond, o -> o.expression(0, MINUS, 1));
        refused(ELEMENT, "another z", PromiseTest::ranDiamond, o -> o.expression(0, PLUS, 2));
        for (int bad : NO_VARIABLES) {
            refused(ELEMENT, "y " + bad, PromiseTest::ranDiamond, o -> o.expression(bad, PLUS, 1));
            refused(ELEMENT, "operator " + bad, PromiseTest::ranDiamond, o -> o.expression(0, bad, 1));
            refused(ELEMENT, "z " + bad, PromiseTest::ranDiamond, o -> o.expression(0, PLUS, bad));
        }
        LazyMotion m = expressions(24);
        Check.throwing("the 25th", STATE, () -> m.statement(COMPUTE, 5, 4, LESS, 4));
        Check.throwing("one that was refused", ELEMENT, () -> m.expression(4, LESS, 4));
    }

    private static void runsBoth() {
        LazyMotion m = plannedDiamond();
        Check.due("as it was, by way of 1", m.run(false, 2, 3, 1), 3);
        Check.due("new, by way of 1", m.run(true, 2, 3, 1), 1);
        Check.due("as it was, by way of 2", m.run(false, 2, 3, 0), 2);
        Check.due("new, by way of 2", m.run(true, 2, 3, 0), 2);
        for (int c = 0; c < 2; c++) {
            m.run(false, 2, 3, c);
            int old = m.variable(5);
            m.run(true, 2, 3, c);
            Check.due("side by side", m.variable(5), old);
        }
    }

    private static void startOfRun() {
        LazyMotion m = blocks(1);
        m.statement(OUT, 3, 0, 0, 0);
        m.statement(OUT, 4, 0, 0, 0);
        m.statement(OUT, 5, 0, 0, 0);
        m.statement(SET, 3, 6, 0, 0);
        m.statement(COPY, 4, 0, 0, 0);
        m.plan();
        for (boolean fresh : new boolean[] {false, true, false}) {
            m.run(fresh, FEW, MANY, -1);
            Check.due("a", m.variable(0), FEW);
            Check.due("b", m.variable(1), MANY);
            Check.due("c", m.variable(2), -1);
            for (int i = 0; i < 3; i++) {
                Check.due("variable " + (3 + i) + " at first", m.out(i), 0);
            }
        }
        m.run(false, 0, 0, 0);
        Check.due("none of an earlier run's is left", m.variable(0), 0);
    }

    private static void computations() {
        LazyMotion none = blocks(1);
        none.statement(COPY, 4, 2, 0, 0);
        none.statement(SET, 5, 1, 0, 0);
        none.statement(OUT, 3, 0, 0, 0);
        none.plan();
        Check.due("COPY, SET and OUT are none", none.run(true, 1, 2, 3), 0);
        LazyMotion m = plannedDiamond();
        Check.due("one in 0, one on an edge", m.run(true, 2, 3, 0), 2);
        Check.due("computed(0) has both", m.computed(0), 2);
        LazyMotion full = blocks(1);
        for (int i = 0; i < 5; i++) {
            full.statement(COMPUTE, 0, 0, i, 1);
        }
        full.end(0, GO, 0, 0, 0);
        full.plan();
        Check.due("the most there can be in statements", full.run(false, 1, 1, 1), 1000);
    }

    /** 1 counts 0 down to 0, then 2 gives a number out. */
    private static LazyMotion counter() {
        LazyMotion m = blocks(1);
        m.statement(SET, 3, 1, 0, 0);
        m.end(0, GO, 0, 1, 0);
        m.block();
        m.statement(COMPUTE, 0, 0, MINUS, 3);
        m.end(1, BRANCH, 0, 1, 2);
        m.block();
        m.statement(OUT, 3, 0, 0, 0);
        m.plan();
        return m;
    }

    private static void blocks200() {
        LazyMotion m = counter();
        for (boolean fresh : new boolean[] {false, true}) {
            Check.due("199 blocks", m.run(fresh, 197, 0, 0), 197);
            Check.due("all gone through", m.count(3), 199);
            Check.due("200 blocks", m.run(fresh, 198, 0, 0), 198);
            Check.due("the 200th gone through as a whole", m.outs(), 1);
            Check.due("200 gone through", m.count(3), 200);
            Check.due("201 blocks", m.run(fresh, 199, 0, 0), 199);
            Check.due("the 201st not gone through", m.outs(), 0);
            Check.due("200 of 201 gone through", m.count(3), 200);
            Check.due("one that does not end", m.run(fresh, 0, 0, 0), 199);
            Check.due("200 of it gone through", m.count(3), 200);
        }
    }

    /** 0, 3, 2 in a ring, and computed between 3 and 2: the 200th block is 3. */
    private static void edgeBehind200() {
        LazyMotion m = blocks(1);
        m.end(0, BRANCH, 2, 1, 3);
        m.block();
        m.statement(COMPUTE, 4, 0, PLUS, 1);
        m.end(1, GO, 0, 2, 0);
        m.block();
        m.statement(COMPUTE, 5, 0, PLUS, 1);
        m.statement(SET, 0, 1, 0, 0);
        m.end(2, GO, 0, 0, 0);
        m.block();
        m.end(3, GO, 0, 2, 0);
        m.plan();
        Check.due("put(3, 2)", m.put(3, 2), 1);
        Check.due("computations", m.run(true, 1, 1, 0), 66);
        Check.due("computed(0)", m.computed(0), 66);
    }

    private static void runWithoutBlock() {
        refused(STATE, "run(false)", LazyMotion::new, o -> o.run(false, 1, 2, 3));
        refused(STATE, "run(true)", LazyMotion::new, o -> o.run(true, 1, 2, 3));
    }

    private static void runUnplanned() {
        refused(STATE, "run(false), never planned", PromiseTest::diamond, o -> o.run(false, 1, 2, 3));
        refused(STATE, "run(true), never planned", PromiseTest::diamond, o -> o.run(true, 1, 2, 3));
        refused(STATE, "run(false), changed", PromiseTest::changedBehindPlan, o -> o.run(false, 1, 2, 3));
        refused(STATE, "run(true), changed", PromiseTest::changedBehindPlan, o -> o.run(true, 1, 2, 3));
    }

    /** Gives out variables 0, 1 and 0 while it counts 0 down by 2. */
    private static LazyMotion talker() {
        LazyMotion m = blocks(1);
        m.statement(OUT, 0, 0, 0, 0);
        m.statement(OUT, 1, 0, 0, 0);
        m.statement(OUT, 0, 0, 0, 0);
        m.statement(COMPUTE, 0, 0, MINUS, 2);
        m.end(0, BRANCH, 0, 0, 1);
        m.block();
        m.plan();
        return m;
    }

    private static void howManyOut() {
        LazyMotion m = talker();
        Check.due("no run", m.outs(), 0);
        m.run(false, 2, 7, 1);
        Check.due("two rounds", m.outs(), 6);
        m.run(true, 34, 7, 1);
        Check.due("more than a hundred", m.outs(), 102);
        m.run(true, 1, 7, 1);
        Check.due("of the latest run alone", m.outs(), 3);
        m.block();
        Check.due("behind a change", m.outs(), 3);
        LazyMotion loud = blocks(1);
        for (int i = 0; i < 5; i++) {
            loud.statement(OUT, 0, 0, 0, 0);
        }
        loud.end(0, GO, 0, 0, 0);
        loud.plan();
        loud.run(false, 1, 0, 0);
        Check.due("the most there can be", loud.outs(), 1000);
        LazyMotion silent = blocks(1);
        silent.plan();
        silent.run(false, 1, 2, 3);
        Check.due("none", silent.outs(), 0);
    }

    private static void outNumbers() {
        LazyMotion m = talker();
        m.run(false, 3, -5, 1);
        int[] want = {3, -5, 3, 2, -5, 2, 1, -5, 1};
        for (int i = 0; i < want.length; i++) {
            Check.due("out(" + i + ")", m.out(i), want[i]);
        }
        m.run(true, 1, FEW, 1);
        Check.due("of the latest run", m.out(1), FEW);
        m.block();
        Check.due("behind a change", m.out(1), FEW);
    }

    private static void firstHundred() {
        LazyMotion m = talker();
        m.run(false, 34, 5, 1);
        Check.due("outs()", m.outs(), 102);
        Check.due("the 99th", m.out(98), 2);
        Check.due("the hundredth", m.out(99), 1);
        Check.throwing("the 101st", INDEX, () -> m.out(100));
        Check.throwing("the 102nd", INDEX, () -> m.out(101));
        Check.due("the first, not written over", m.out(0), 34);
        m.run(false, 33, 5, 1);
        Check.due("the last of 99", m.out(98), 1);
        Check.throwing("the hundredth of 99", INDEX, () -> m.out(99));
    }

    private static void noSuchOut() {
        for (int bad : new int[] {-1, 2, 3, 99, 100, 101, FEW, MANY}) {
            refused(INDEX, "out(" + bad + ") of two", PromiseTest::ranDiamond, o -> o.out(bad));
        }
        refused(INDEX, "out(0) without a run", PromiseTest::plannedDiamond, o -> o.out(0));
        refused(INDEX, "out(0) of a new object", LazyMotion::new, o -> o.out(0));
        LazyMotion m = talker();
        m.run(false, 40, 5, 1);
        m.run(false, 1, 5, 1);
        Check.throwing("out(3) of three, where an earlier run had more", INDEX, () -> m.out(3));
    }

    private static void valueAtEnd() {
        LazyMotion m = blocks(1);
        m.statement(SET, 5, 77, 0, 0);
        m.plan();
        m.run(false, FEW, MANY, -3);
        int[] want = {FEW, MANY, -3, 0, 0, 77};
        for (int x = 0; x < 6; x++) {
            Check.due("variable(" + x + ")", m.variable(x), want[x]);
        }
        m.statement(SET, 5, 78, 0, 0);
        Check.due("behind a change", m.variable(5), 77);
        m.plan();
        Check.due("behind a plan", m.variable(5), 77);
        m.run(true, 0, 0, 0);
        Check.due("of the latest run", m.variable(5), 78);
    }

    private static void valueWithoutRun() {
        LazyMotion m = new LazyMotion();
        LazyMotion planned = plannedDiamond();
        for (int x = 0; x < 6; x++) {
            Check.due("variable(" + x + ") of a new object", m.variable(x), 0);
            Check.due("variable(" + x + ") behind a plan", planned.variable(x), 0);
        }
    }

    private static void noSuchVariable() {
        for (int bad : NO_VARIABLES) {
            refused(INDEX, "variable(" + bad + ")", PromiseTest::ranDiamond, o -> o.variable(bad));
            refused(INDEX, "variable(" + bad + ") of a new object", LazyMotion::new, o -> o.variable(bad));
        }
    }

    private static void howOften() {
        LazyMotion m = diamond();
        Check.due("no run", m.computed(0), 0);
        m.plan();
        Check.due("a plan is no run", m.computed(0), 0);
        m.run(false, 2, 3, 1);
        Check.due("three times", m.computed(0), 3);
        m.run(false, 2, 3, 0);
        Check.due("of the latest run", m.computed(0), 2);
        m.block();
        Check.due("behind a change", m.computed(0), 2);
        LazyMotion all = expressions(24);
        for (int b = 0; b < 4; b++) {
            all.end(b, GO, 0, b + 1, 0);
        }
        all.plan();
        all.run(true, 0, 0, 0);
        for (int e = 0; e < 24; e++) {
            Check.due("computed(" + e + ")", all.computed(e), 1);
        }
    }

    private static void notWhereTaken() {
        LazyMotion m = plannedDiamond();
        m.run(true, 2, 3, 1);
        Check.due("in 0 alone", m.computed(0), 1);
        m.run(true, 2, 3, 0);
        Check.due("in 0 and on an edge", m.computed(0), 2);
    }

    private static void noneOfThisNumber() {
        LazyMotion m = ranDiamond();
        for (int none : new int[] {-1, 1, 2, 23, 24, 25, 31, 32, 63, 64, FEW, MANY}) {
            Check.due("computed(" + none + ")", m.computed(none), 0);
        }
        m.statement(COMPUTE, 5, 2, PLUS, 1);
        Check.due("one that came behind the run", m.computed(1), 0);
        LazyMotion empty = new LazyMotion();
        for (int none : new int[] {-1, 0, 24, FEW, MANY}) {
            Check.due("computed(" + none + ") of a new object", empty.computed(none), 0);
        }
        LazyMotion all = planned24();
        Check.due("computed(24) of 24", all.computed(24), 0);
    }

    private static void countBlocks() {
        LazyMotion m = new LazyMotion();
        for (int b = 0; b < 16; b++) {
            Check.due("count(0)", m.count(0), b);
            m.block();
        }
        Check.due("count(0), full", m.count(0), 16);
    }

    private static void countExpressions() {
        LazyMotion m = diamond();
        Check.due("the same one three times", m.count(1), 1);
        m.statement(COMPUTE, 5, 1, PLUS, 0);
        Check.due("the other order", m.count(1), 2);
        Check.due("full", expressions(24).count(1), 24);
    }

    private static void countPlans() {
        LazyMotion m = diamond();
        Check.due("none", m.count(2), 0);
        m.plan();
        m.plan();
        Check.due("two", m.count(2), 2);
        m.end(3, GO, 0, 15, 0);
        Check.due("one that is invalid was made", m.count(2), 2);
        Check.throwing("plan() that is refused", UNSUPPORTED, m::plan);
        Check.due("one that was refused was not made", m.count(2), 2);
    }

    private static void countPassed() {
        LazyMotion m = diamond();
        Check.due("no run", m.count(3), 0);
        m.plan();
        Check.due("a plan is no run", m.count(3), 0);
        m.run(true, 0, 0, 0);
        Check.due("three of four", m.count(3), 3);
        m.end(0, STOP, 0, 0, 0);
        Check.due("behind a change", m.count(3), 3);
        m.plan();
        m.run(false, 0, 0, 0);
        Check.due("of the latest run", m.count(3), 1);
        m.end(0, GO, 0, 0, 0);
        m.plan();
        m.run(false, 0, 0, 0);
        Check.due("each time that it is gone through", m.count(3), 200);
    }

    private static void noSuchCount() {
        for (int bad : new int[] {-1, 4, FEW, MANY}) {
            refused(INDEX, "count(" + bad + ")", PromiseTest::ranDiamond, o -> o.count(bad));
            refused(INDEX, "count(" + bad + ") of a new object", LazyMotion::new, o -> o.count(bad));
        }
    }
}
