/** Each sentence of 'What it is', 'The public face' and 'Terms' that names a boundary case, by a test of its own. */
public final class TermsTest extends Sentences {
    private static final long ALL_24 = (1L << 24) - 1;

    public static void main(String[] args) {
        limits();
        endsAndEdges();
        expressions();
        sets();
        newProgram();
        Check.end("TermsTest");
    }

    private static void limits() {
        Check.sentence("An object is used for at most 512 calls after it has been made", TermsTest::calls512);
        Check.sentence("The constants: NONE = -1", TermsTest::none);
        Check.sentence("A PROGRAM has at most 16 BLOCKS", TermsTest::blocks16);
        Check.sentence("numbered from 0 in the order in which they are made; 0 is the first one",
                TermsTest::firstBlock);
        Check.sentence("A block has at most five STATEMENTS and an END", TermsTest::fiveStatements);
        Check.sentence("VARIABLES are 0 .. 5", TermsTest::variables);
        Check.sentence("SET x := n (a short number, -32768 .. 32767)", TermsTest::shortNumbers);
        Check.sentence("OPERATORS: 0 plus, 1 minus, 2 times", TermsTest::numberOperators);
        Check.sentence("3 and (bits)", TermsTest::andOperator);
        Check.sentence("4 less (1 or 0)", TermsTest::lessOperator);
        Check.sentence("of ints that wrap", TermsTest::wrap);
    }

    private static void endsAndEdges() {
        Check.sentence("The end of a block is STOP (at first)", TermsTest::stopAtFirst);
        Check.sentence("GO to a block", TermsTest::goTo);
        Check.sentence("a BRANCH on x: to a block if x is not 0, else to another one", TermsTest::branch);
        Check.sentence("A block that another one goes to may be made later", TermsTest::madeLater);
        Check.sentence("an EDGE is a pair of a block and one of its successors", TermsTest::edges);
        Check.sentence("(one edge, if both are the same)", TermsTest::oneEdge);
        Check.sentence("There is an edge from OUTSIDE (NONE) to block 0", TermsTest::edgeFromOutside);
    }

    private static void expressions() {
        Check.sentence("An EXPRESSION is an operator and its y and z (in this order)", TermsTest::order);
        Check.sentence("They are numbered from 0 as they come, by blocks and statements", TermsTest::asTheyCome);
        Check.sentence("at most 24", TermsTest::expressions24);
        Check.sentence("A block CHANGES an expression, if a statement in it gives y or z a value", TermsTest::changes);
        Check.sentence("It ASKS for it, if it computes it before a statement that gives y or z a value (or none does)",
                TermsTest::asks);
        Check.sentence("it LEAVES it, if it computes it and no statement from this one on gives y or z a value",
                TermsTest::leaves);
        Check.sentence("(the last such one)", TermsTest::leavesLast);
        Check.sentence("x may be y or z: then it does not", TermsTest::leavesNotItself);
    }

    private static void sets() {
        Check.sentence("all are the greatest that fit: THERE", TermsTest::greatestThere);
        Check.sentence("all are the greatest that fit: WANTED", TermsTest::greatestWanted);
        Check.sentence("all are the greatest that fit: LATE", TermsTest::greatestLate);
        Check.sentence("they get smaller until nothing changes", TermsTest::untilNothingChanges);
        Check.sentence("Blocks that can't be reached from block 0 are left out", TermsTest::leftOut);
        Check.sentence("as if they and their edges were not there", TermsTest::edgesLeftOut);
        Check.sentence("THERE BEFORE b: what is there behind all blocks from which an edge leads to b",
                TermsTest::thereBehindAll);
        Check.sentence("nothing, if one leads from outside", TermsTest::thereFromOutside);
        Check.sentence("THERE BEHIND b: what b leaves, and what is there before b and not changed by b",
                TermsTest::thereBehind);
        Check.sentence("WANTED BEFORE b: what b asks for, and what is wanted behind b and not changed by b",
                TermsTest::wantedBefore);
        Check.sentence("WANTED BEHIND b: what is wanted before all successors", TermsTest::wantedBeforeAll);
        Check.sentence("nothing, if there is none", TermsTest::noSuccessor);
        Check.sentence("EARLIEST: wanted before b, not there behind a", TermsTest::earliestNotThere);
        Check.sentence("EARLIEST: and changed by a or not wanted behind a", TermsTest::earliestChangedOrNotWanted);
        Check.sentence("EARLIEST on that from outside: what is wanted before block 0", TermsTest::earliestOutside);
        Check.sentence("LATER: what is earliest on it, or is LATE before a and not asked for by a", TermsTest::later);
        Check.sentence("LATE before b: what is later on all edges to b", TermsTest::lateOnAll);
        Check.sentence("PUT: what is later on it, but not late before b", TermsTest::put);
        Check.sentence("TAKEN OUT of b: what b asks for, and is not late before b", TermsTest::takenOut);
    }

    private static void newProgram() {
        Check.sentence("An expression is MOVED when it is taken out of some block", TermsTest::moved);
        Check.sentence("The NEW PROGRAM has a TEMPORARY for each moved expression, 0 at first", TermsTest::temporaries);
        Check.sentence("Where an expression is put on an edge (moved or not), it is computed", TermsTest::movedOrNot);
        Check.sentence("whenever this edge is gone along", TermsTest::wheneverGoneAlong);
        Check.sentence("(several in the order of their numbers)", TermsTest::severalOnEdge);
        Check.sentence("its temporary, if it has one, gets the value", TermsTest::edgeSetsTemporary);
        Check.sentence("The first statement that computes an expression that is taken out of its block is "
                + "x := temporary", TermsTest::firstTakesTemporary);
        Check.sentence("every other one that computes a moved expression sets the temporary to it, and x to that",
                TermsTest::othersSetTemporary);
    }

    private static void calls512() {
        LazyMotion m = new LazyMotion();
        m.block();
        for (int call = 2; call < 512; call++) {
            m.plan();
        }
        Check.due("the 512th call", m.count(2), 510);
        LazyMotion full = fullProgram();
        full.plan();
        for (int call = 16 + 16 + 80 + 2; call < 512; call++) {
            Check.due("run number " + call, full.run(call % 2 == 0, call, 1, 1), 1000);
        }
        Check.due("the 512th call behind many runs", full.count(3), 200);
    }

    /** A ring of 16 blocks of five statements, each a computation that nothing can be saved of. */
    private static LazyMotion fullProgram() {
        LazyMotion m = new LazyMotion();
        for (int b = 0; b < 16; b++) {
            m.block();
            m.end(b, GO, 0, (b + 1) % 16, 0);
            for (int i = 0; i < 5; i++) {
                m.statement(COMPUTE, 0, 0, i, 1);
            }
        }
        return m;
    }

    private static void none() {
        Check.due("NONE", LazyMotion.NONE, -1);
    }

    private static void blocks16() {
        LazyMotion m = blocks(15);
        Check.due("the 16th block", m.block(), 15);
        Check.due("blocks", m.count(0), 16);
        refused(STATE, "17th block()", () -> blocks(16), LazyMotion::block);
    }

    /** 0, 15, 14, .. 1 are gone through, each gives its number out. */
    private static void firstBlock() {
        LazyMotion m = new LazyMotion();
        for (int b = 0; b < 16; b++) {
            Check.due("block()", m.block(), b);
            m.statement(SET, 3, b, 0, 0);
            m.statement(OUT, 3, 0, 0, 0);
            if (b != 1) {
                m.end(b, GO, 0, b == 0 ? 15 : b - 1, 0);
            }
        }
        m.plan();
        m.run(false, 0, 0, 0);
        Check.due("blocks gone through", m.count(3), 16);
        Check.due("the first", m.out(0), 0);
        for (int i = 1; i < 16; i++) {
            Check.due("block number " + i + " on the way", m.out(i), 16 - i);
        }
    }

    private static void fiveStatements() {
        LazyMotion m = blocks(2);
        m.end(1, BRANCH, 5, 1, 0);
        m.end(0, GO, 0, 1, 0);
        for (int i = 1; i <= 5; i++) {
            Check.due("statement number " + i, m.statement(OUT, i, 0, 0, 0), i);
        }
        refused(STATE, "sixth statement()", TermsTest::fullBlock, o -> o.statement(OUT, 0, 0, 0, 0));
        m.plan();
        m.run(true, 0, 8, 9);
        Check.due("blocks gone through, the end behind five statements", m.count(3), 200);
        Check.due("numbers out", m.outs(), 500);
        Check.due("the first of five", m.out(0), 8);
        Check.due("the second of five", m.out(1), 9);
        Check.due("the last of five", m.out(4), 0);
    }

    private static LazyMotion fullBlock() {
        LazyMotion m = blocks(1);
        for (int i = 0; i < 5; i++) {
            m.statement(OUT, i, 0, 0, 0);
        }
        return m;
    }

    private static void variables() {
        for (int x = 0; x < 6; x++) {
            LazyMotion m = blocks(1);
            Check.due("SET of " + x, m.statement(SET, x, 3, 0, 0), 1);
            Check.due("COMPUTE of " + x, m.statement(COMPUTE, x, x, PLUS, x), 2);
            Check.due("COPY of " + x, m.statement(COPY, (x + 1) % 6, x, 0, 0), 3);
            Check.due("OUT of " + x, m.statement(OUT, (x + 1) % 6, 0, 0, 0), 4);
            Check.due("BRANCH on " + x, m.end(0, BRANCH, x, 0, 1), 2);
            m.block();
            m.plan();
            m.run(false, 0, 0, 0);
            Check.due("SET, doubled, copied and given out, of " + x, m.out(0), 6);
            Check.due("goes on while " + x + " is not 0", m.count(3), 200);
        }
        for (int bad : NO_VARIABLES) {
            refused(ARGUMENT, "OUT of " + bad, TermsTest::diamond, o -> o.statement(OUT, bad, 0, 0, 0));
        }
    }

    private static void shortNumbers() {
        for (int n : new int[] {-32768, -32767, -1, 0, 32766, 32767}) {
            LazyMotion m = blocks(1);
            Check.due("SET to " + n, m.statement(SET, 4, n, 0, 0), 1);
            m.plan();
            m.run(false, 0, 0, 0);
            Check.due("what was set", m.variable(4), n);
        }
        for (int bad : new int[] {-32769, 32768, 65536, FEW, MANY}) {
            refused(ARGUMENT, "SET to " + bad, TermsTest::diamond, o -> o.statement(SET, 0, bad, 0, 0));
        }
    }

    private static long value(int op, int y, int z) {
        LazyMotion m = blocks(1);
        m.statement(COMPUTE, 3, 0, op, 1);
        m.plan();
        m.run(true, y, z, 0);
        return m.variable(3);
    }

    private static void numberOperators() {
        Check.due("2 plus 3", value(PLUS, 2, 3), 5);
        Check.due("2 minus 3", value(MINUS, 2, 3), -1);
        Check.due("3 minus 2", value(MINUS, 3, 2), 1);
        Check.due("-2 times 3", value(TIMES, -2, 3), -6);
        Check.due("0 times 3", value(TIMES, 0, 3), 0);
        for (int bad : new int[] {-1, 5, FEW, MANY}) {
            refused(ARGUMENT, "operator " + bad, TermsTest::diamond, o -> o.statement(COMPUTE, 0, 0, bad, 1));
        }
    }

    private static void andOperator() {
        Check.due("6 and 3", value(AND, 6, 3), 2);
        Check.due("4 and 3", value(AND, 4, 3), 0);
        Check.due("-1 and 12", value(AND, -1, 12), 12);
        Check.due("of the highest bit", value(AND, FEW, -1), FEW);
    }

    private static void lessOperator() {
        Check.due("2 less 3", value(LESS, 2, 3), 1);
        Check.due("3 less 3", value(LESS, 3, 3), 0);
        Check.due("4 less 3", value(LESS, 4, 3), 0);
        Check.due("the least less the greatest", value(LESS, FEW, MANY), 1);
        Check.due("the greatest less the least", value(LESS, MANY, FEW), 0);
        Check.due("-1 less 0", value(LESS, -1, 0), 1);
    }

    private static void wrap() {
        Check.due("plus", value(PLUS, MANY, 1), FEW);
        Check.due("plus, below", value(PLUS, FEW, -1), MANY);
        Check.due("minus", value(MINUS, FEW, 1), MANY);
        Check.due("minus, above", value(MINUS, MANY, -1), FEW);
        Check.due("minus of the least", value(MINUS, 0, FEW), FEW);
        Check.due("times", value(TIMES, 1 << 16, 1 << 16), 0);
        Check.due("times, negative", value(TIMES, MANY, 2), -2);
        Check.due("times of the least", value(TIMES, FEW, -1), FEW);
    }

    private static void stopAtFirst() {
        LazyMotion m = blocks(2);
        m.plan();
        m.run(false, 1, 1, 1);
        Check.due("blocks gone through", m.count(3), 1);
        Check.throwing("no edge to block 1", ELEMENT, () -> m.put(0, 1));
        Check.throwing("no edge to block 0", ELEMENT, () -> m.put(0, 0));
    }

    private static void goTo() {
        LazyMotion m = blocks(3);
        m.end(0, GO, 0, 2, 1);
        m.statement(OUT, 0, 0, 0, 0);
        m.plan();
        for (int x = -1; x <= 1; x++) {
            m.run(false, x, 0, 0);
            Check.due("goes there whatever 0 is", m.outs(), 1);
        }
    }

    private static void branch() {
        LazyMotion m = blocks(3);
        m.end(0, BRANCH, 2, 1, 2);
        m.statement(OUT, 2, 0, 0, 0);
        m.plan();
        for (int x : new int[] {1, -1, 2, 256, 1 << 16, FEW, MANY}) {
            m.run(false, 0, 0, x);
            Check.due("not 0: " + x + ", goes to the one", m.outs(), 0);
        }
        m.run(false, 1, 1, 0);
        Check.due("0 goes to the other", m.outs(), 1);
    }

    private static void madeLater() {
        LazyMotion m = blocks(1);
        Check.due("GO to the 16th, which is not there", m.end(0, GO, 0, 15, 0), 1);
        for (int b = 1; b < 16; b++) {
            m.block();
        }
        m.statement(OUT, 1, 0, 0, 0);
        Check.due("plan() when it is there", m.plan(), 0);
        m.run(true, 0, 4, 0);
        Check.due("what it gives out", m.out(0), 4);
    }

    private static void edges() {
        LazyMotion m = blocks(3);
        m.end(0, BRANCH, 0, 1, 2);
        m.end(1, GO, 0, 1, 0);
        m.plan();
        Check.due("put(0, 1)", m.put(0, 1), 0);
        Check.due("put(0, 2)", m.put(0, 2), 0);
        Check.due("put(1, 1), to itself", m.put(1, 1), 0);
        Check.throwing("put(1, 0), the wrong way", ELEMENT, () -> m.put(1, 0));
        Check.throwing("put(0, 0)", ELEMENT, () -> m.put(0, 0));
        Check.throwing("put(2, 2), of one that stops", ELEMENT, () -> m.put(2, 2));
    }

    private static void oneEdge() {
        LazyMotion m = missedOnOneSide();
        Check.due("successors", m.end(2, BRANCH, 1, 3, 3), 1);
        m.plan();
        Check.due("put on it", m.put(2, 3), 1);
        Check.due("computed once on it", m.run(true, 1, 2, 0), 1);
        Check.due("also the other way", m.run(true, 1, 0, 0), 1);
    }

    /** 0 branches on 2; 1 computes 0+1, 2 does not; both go to 3, which computes it. */
    private static LazyMotion missedOnOneSide() {
        LazyMotion m = blocks(1);
        m.end(0, BRANCH, 2, 1, 2);
        m.block();
        m.statement(COMPUTE, 3, 0, PLUS, 1);
        m.end(1, GO, 0, 3, 0);
        m.block();
        m.end(2, GO, 0, 3, 0);
        m.block();
        m.statement(COMPUTE, 4, 0, PLUS, 1);
        return m;
    }

    private static void edgeFromOutside() {
        LazyMotion m = blocks(2);
        m.plan();
        Check.due("put(NONE, 0)", m.put(NONE, 0), 0);
        Check.throwing("put(NONE, 1)", ELEMENT, () -> m.put(NONE, 1));
        Check.throwing("put(NONE, NONE)", ELEMENT, () -> m.put(NONE, NONE));
        Check.throwing("put(0, NONE)", ELEMENT, () -> m.put(0, NONE));
        LazyMotion loop = loopAtStart();
        loop.plan();
        Check.due("put in front of a loop", loop.put(NONE, 0), 1);
        Check.due("gone along once in a run", loop.run(true, 1, 1, 1), 1);
    }

    /** 0 computes 0+1 and goes to itself while 2 is not 0. */
    private static LazyMotion loopAtStart() {
        LazyMotion m = blocks(1);
        m.statement(COMPUTE, 3, 0, PLUS, 1);
        m.end(0, BRANCH, 2, 0, 1);
        m.block();
        return m;
    }

    private static void order() {
        LazyMotion m = blocks(1);
        m.statement(COMPUTE, 3, 1, PLUS, 0);
        m.statement(COMPUTE, 3, 0, PLUS, 1);
        m.statement(COMPUTE, 4, 1, PLUS, 0);
        m.statement(COMPUTE, 3, 0, MINUS, 1);
        m.statement(COMPUTE, 3, 0, PLUS, 0);
        Check.due("expressions", m.count(1), 4);
        Check.due("1 plus 0", m.expression(1, PLUS, 0), 0);
        Check.due("0 plus 1", m.expression(0, PLUS, 1), 1);
        Check.due("0 minus 1", m.expression(0, MINUS, 1), 2);
        Check.due("0 plus 0", m.expression(0, PLUS, 0), 3);
    }

    private static void asTheyCome() {
        LazyMotion m = expressions(12);
        m.block();
        m.statement(COMPUTE, 5, leftOf(7), operatorOf(7), 4);
        m.statement(COMPUTE, 5, 3, LESS, 3);
        for (int e = 0; e < 12; e++) {
            Check.due("expression number " + e, m.expression(leftOf(e), operatorOf(e), 4), e);
        }
        Check.due("one that comes again has no new number", m.expression(3, LESS, 3), 12);
        Check.due("expressions", m.count(1), 13);
    }

    private static void expressions24() {
        LazyMotion m = expressions(24);
        Check.due("expressions", m.count(1), 24);
        refused(STATE, "25th expression", () -> expressions(24), o -> o.statement(COMPUTE, 5, 4, LESS, 4));
        for (int b = 0; b < 4; b++) {
            m.end(b, GO, 0, b + 1, 0);
        }
        m.end(4, BRANCH, 2, 0, 5);
        m.block();
        Check.due("all of 24 are moved", m.plan(), 24);
        Check.due("all wanted before 0", m.set(0, WANTED_BEFORE), ALL_24);
        Check.due("all there behind 4", m.set(4, THERE_BEHIND), ALL_24);
        Check.due("all put in front", m.put(NONE, 0), ALL_24);
        Check.due("computations of 24 in two rounds and more", m.run(false, 0, 0, 1), 40 * 24);
        Check.due("and in the new program", m.run(true, 0, 0, 1), 24);
        Check.due("the last one's", m.computed(23), 1);
    }

    /** 0 computes 0+1, 1 has the one statement, 2 computes it again: whether it is there behind 1. */
    private static long thereBehind(int kind, int x, int a, int b, int c) {
        LazyMotion m = blocks(1);
        m.statement(COMPUTE, 3, 0, PLUS, 1);
        m.end(0, GO, 0, 1, 0);
        m.block();
        m.statement(kind, x, a, b, c);
        m.end(1, GO, 0, 2, 0);
        m.block();
        m.statement(COMPUTE, 4, 0, PLUS, 1);
        m.plan();
        return m.set(1, THERE_BEHIND) & 1;
    }

    private static void changes() {
        for (int x = 0; x < 6; x++) {
            int stays = x <= 1 ? 0 : 1;
            Check.due("there behind COPY to " + x, thereBehind(COPY, x, 5, 0, 0), stays);
            Check.due("there behind COPY of itself to " + x, thereBehind(COPY, x, x, 0, 0), stays);
            Check.due("there behind SET of " + x, thereBehind(SET, x, 0, 0, 0), stays);
            Check.due("there behind COMPUTE of " + x, thereBehind(COMPUTE, x, 4, PLUS, 5), stays);
            Check.due("there behind OUT of " + x, thereBehind(OUT, x, 0, 0, 0), 1);
        }
        LazyMotion m = blocks(1);
        m.statement(COMPUTE, 3, 0, PLUS, 0);
        m.statement(SET, 0, 1, 0, 0);
        m.plan();
        Check.due("y and z are the same, and changed", m.set(0, THERE_BEHIND), 0);
        LazyMotion several = expressions(5);
        several.end(0, GO, 0, 1, 0);
        several.block();
        several.statement(COMPUTE, 5, 4, PLUS, 0);
        several.statement(COMPUTE, 5, 1, PLUS, 0);
        several.statement(COMPUTE, 5, 1, PLUS, 4);
        several.plan();
        Check.due("eight expressions", several.set(1, THERE_BEHIND), 0b11111111);
        several.statement(SET, 4, 1, 0, 0);
        several.plan();
        Check.due("4 is in all but one of them, as y or as z", several.set(1, THERE_BEHIND), 0b01000000);
        several.statement(SET, 0, 1, 0, 0);
        several.plan();
        Check.due("and 0 in that", several.set(1, THERE_BEHIND), 0);
    }

    /** Each statement is written as kind, x, a, b, c. */
    private static LazyMotion oneBlock(int... statements) {
        LazyMotion m = blocks(1);
        for (int i = 0; i < statements.length; i += 5) {
            m.statement(statements[i], statements[i + 1], statements[i + 2], statements[i + 3], statements[i + 4]);
        }
        m.plan();
        return m;
    }

    private static void asks() {
        Check.due("none gives them a value", oneBlock(COMPUTE, 3, 0, PLUS, 1).set(0, WANTED_BEFORE), 1);
        Check.due("it stands before one that does",
                oneBlock(COMPUTE, 3, 0, PLUS, 1, SET, 0, 1, 0, 0).set(0, WANTED_BEFORE), 1);
        Check.due("it stands behind one that gives y a value",
                oneBlock(SET, 0, 1, 0, 0, COMPUTE, 3, 0, PLUS, 1).set(0, WANTED_BEFORE), 0);
        Check.due("it stands behind one that gives z a value",
                oneBlock(COPY, 1, 4, 0, 0, COMPUTE, 3, 0, PLUS, 1).set(0, WANTED_BEFORE), 0);
        Check.due("it stands between two",
                oneBlock(SET, 0, 1, 0, 0, COMPUTE, 3, 0, PLUS, 1, SET, 1, 1, 0, 0).set(0, WANTED_BEFORE), 0);
        Check.due("it stands before and behind one",
                oneBlock(COMPUTE, 3, 0, PLUS, 1, SET, 0, 1, 0, 0, COMPUTE, 3, 0, PLUS, 1).set(0, WANTED_BEFORE), 1);
        Check.due("it gives y the value itself", oneBlock(COMPUTE, 0, 0, PLUS, 1).set(0, WANTED_BEFORE), 1);
        Check.due("it gives z the value itself", oneBlock(COMPUTE, 1, 0, PLUS, 1).set(0, WANTED_BEFORE), 1);
        Check.due("other variables do not matter",
                oneBlock(SET, 2, 1, 0, 0, OUT, 0, 0, 0, 0, COMPUTE, 3, 0, PLUS, 1).set(0, WANTED_BEFORE), 1);
        Check.due("as the fifth statement", oneBlock(OUT, 0, 0, 0, 0, OUT, 0, 0, 0, 0, OUT, 0, 0, 0, 0,
                OUT, 0, 0, 0, 0, COMPUTE, 3, 0, PLUS, 1).set(0, WANTED_BEFORE), 1);
        Check.due("an empty block asks for nothing", oneBlock().set(0, WANTED_BEFORE), 0);
    }

    private static void leaves() {
        Check.due("none gives them a value", oneBlock(COMPUTE, 3, 0, PLUS, 1).set(0, THERE_BEHIND), 1);
        Check.due("one behind it gives y a value",
                oneBlock(COMPUTE, 3, 0, PLUS, 1, SET, 0, 1, 0, 0).set(0, THERE_BEHIND), 0);
        Check.due("one behind it gives z a value",
                oneBlock(COMPUTE, 3, 0, PLUS, 1, COPY, 1, 4, 0, 0).set(0, THERE_BEHIND), 0);
        Check.due("one before it gives y a value",
                oneBlock(SET, 0, 1, 0, 0, COMPUTE, 3, 0, PLUS, 1).set(0, THERE_BEHIND), 1);
        Check.due("other variables do not matter",
                oneBlock(COMPUTE, 3, 0, PLUS, 1, SET, 3, 1, 0, 0, OUT, 0, 0, 0, 0).set(0, THERE_BEHIND), 1);
        Check.due("the fifth statement gives y a value", oneBlock(COMPUTE, 3, 0, PLUS, 1, OUT, 0, 0, 0, 0,
                OUT, 0, 0, 0, 0, OUT, 0, 0, 0, 0, SET, 0, 1, 0, 0).set(0, THERE_BEHIND), 0);
        Check.due("an empty block leaves nothing", oneBlock().set(0, THERE_BEHIND), 0);
    }

    private static void leavesLast() {
        Check.due("computed before and behind the one that gives a value", oneBlock(COMPUTE, 3, 0, PLUS, 1,
                SET, 0, 1, 0, 0, COMPUTE, 3, 0, PLUS, 1).set(0, THERE_BEHIND), 1);
        Check.due("the last one stands before it", oneBlock(COMPUTE, 3, 0, PLUS, 1,
                COMPUTE, 4, 0, PLUS, 1, SET, 0, 1, 0, 0).set(0, THERE_BEHIND), 0);
    }

    private static void leavesNotItself() {
        Check.due("x is y", oneBlock(COMPUTE, 0, 0, PLUS, 1).set(0, THERE_BEHIND), 0);
        Check.due("x is z", oneBlock(COMPUTE, 1, 0, PLUS, 1).set(0, THERE_BEHIND), 0);
        Check.due("x is both", oneBlock(COMPUTE, 0, 0, PLUS, 0).set(0, THERE_BEHIND), 0);
        Check.due("only the last one's x is y",
                oneBlock(COMPUTE, 3, 0, PLUS, 1, COMPUTE, 0, 0, PLUS, 1).set(0, THERE_BEHIND), 0);
        Check.due("only the first one's x is y",
                oneBlock(COMPUTE, 0, 0, PLUS, 1, COMPUTE, 3, 0, PLUS, 1).set(0, THERE_BEHIND), 1);
    }

    /** 0 computes 0+1 if it is so told; 1 goes to itself or to 2; 2 computes 0+1. */
    private static LazyMotion loopBetween(boolean computedBefore) {
        LazyMotion m = blocks(1);
        if (computedBefore) {
            m.statement(COMPUTE, 3, 0, PLUS, 1);
        }
        m.end(0, GO, 0, 1, 0);
        m.block();
        m.end(1, BRANCH, 2, 1, 2);
        m.block();
        m.statement(COMPUTE, 4, 0, PLUS, 1);
        m.plan();
        return m;
    }

    private static void greatestThere() {
        LazyMotion m = loopBetween(true);
        sets(m, 1, 1, 1, 1, 1, 0, 0);
        sets(m, 2, 1, 1, 1, 0, 0, 1);
    }

    /** Around a loop without a way out everything is wanted. */
    private static void greatestWanted() {
        LazyMotion m = blocks(2);
        m.end(0, BRANCH, 0, 1, 2);
        m.end(1, GO, 0, 1, 0);
        m.block();
        m.statement(COMPUTE, 3, 0, PLUS, 1);
        m.statement(COMPUTE, 3, 0, MINUS, 1);
        m.plan();
        sets(m, 0, 0, 0, 3, 3, 3, 0);
        sets(m, 1, 0, 0, 3, 3, 3, 0);
        sets(m, 2, 0, 3, 3, 0, 3, 0);
    }

    private static void greatestLate() {
        LazyMotion m = loopBetween(false);
        sets(m, 0, 0, 0, 1, 1, 1, 0);
        sets(m, 1, 0, 0, 1, 1, 1, 0);
        sets(m, 2, 0, 1, 1, 0, 1, 0);
        Check.due("nothing is put in front of the loop", m.put(0, 1), 0);
    }

    /** 16 blocks in the order of their numbers, and 0, 15, 14, .. 1: news has to go all the way in either. */
    private static void untilNothingChanges() {
        LazyMotion up = chain(16);
        up.statement(COMPUTE, 3, 0, PLUS, 1);
        up.plan();
        LazyMotion down = blocks(2);
        down.statement(COMPUTE, 3, 0, PLUS, 1);
        closeDownwards(down);
        for (int b = 0; b < 16; b++) {
            sets(up, b, 0, b == 15 ? 1 : 0, 1, b == 15 ? 0 : 1, 1, 0);
            sets(down, b, 0, b == 1 ? 1 : 0, 1, b == 1 ? 0 : 1, 1, 0);
        }
        firstIsSettled();
        nothingWantedAllTheWay();
    }

    /** 0 goes to 15, and each of the others, which are made here, to the one before it, down to 1. */
    private static void closeDownwards(LazyMotion m) {
        m.end(0, GO, 0, 15, 0);
        for (int b = 2; b < 16; b++) {
            m.block();
            m.end(b, GO, 0, b - 1, 0);
        }
        m.plan();
    }

    /** 0 asks for 0+1, and no other one does: nothing changes for 0 while it does for the others. */
    private static void firstIsSettled() {
        LazyMotion m = blocks(1);
        m.statement(COMPUTE, 3, 0, PLUS, 1);
        m.block();
        closeDownwards(m);
        sets(m, 0, 0, 1, 1, 0, 1, 0);
        for (int b = 1; b < 16; b++) {
            sets(m, b, 1, 1, 0, 0, 0, 0);
        }
    }

    /** Each of 16 blocks may go back or on; the last one changes 0, so that nothing is wanted or there before it. */
    private static void nothingWantedAllTheWay() {
        LazyMotion m = new LazyMotion();
        for (int b = 0; b < 16; b++) {
            m.block();
            m.end(b, BRANCH, 2, b == 0 ? 0 : b - 1, b == 15 ? 15 : b + 1);
        }
        m.statement(SET, 0, 1, 0, 0);
        m.statement(COMPUTE, 3, 0, PLUS, 1);
        m.plan();
        for (int b = 0; b < 15; b++) {
            sets(m, b, 0, 0, 0, 0, 0, 0);
        }
        sets(m, 15, 0, 1, 0, 0, 0, 0);
    }

    /** 0 and 2 compute 0+1, 0 goes to 2; 1, which goes to 0 or 2, changes it and computes another; nobody goes to 1. */
    private static LazyMotion withUnreached() {
        LazyMotion m = blocks(1);
        m.statement(COMPUTE, 3, 0, PLUS, 1);
        m.end(0, GO, 0, 2, 0);
        m.block();
        m.statement(SET, 0, 1, 0, 0);
        m.statement(COMPUTE, 3, 1, PLUS, 1);
        m.end(1, BRANCH, 0, 0, 2);
        m.block();
        m.statement(COMPUTE, 4, 0, PLUS, 1);
        return m;
    }

    private static void leftOut() {
        LazyMotion m = withUnreached();
        m.plan();
        sets(m, 1, 0, 0, 0, 0, 0, 0);
        LazyMotion twoOnly = blocks(3);
        twoOnly.statement(COMPUTE, 3, 0, PLUS, 1);
        twoOnly.statement(COMPUTE, 3, 0, PLUS, 1);
        twoOnly.end(1, GO, 0, 2, 0);
        twoOnly.end(2, GO, 0, 1, 0);
        Check.due("two that go to each other alone: moved", twoOnly.plan(), 0);
        sets(twoOnly, 1, 0, 0, 0, 0, 0, 0);
        sets(twoOnly, 2, 0, 0, 0, 0, 0, 0);
        twoOnly.end(0, GO, 0, 1, 0);
        Check.due("moved, when they are reached", twoOnly.plan(), 1);
        twoOnly.end(0, GO, 0, 0, 0);
        Check.due("moved, when they are no more reached", twoOnly.plan(), 0);
        sets(twoOnly, 2, 0, 0, 0, 0, 0, 0);
    }

    private static void edgesLeftOut() {
        LazyMotion m = withUnreached();
        Check.due("they hinder nothing", m.plan(), 1);
        sets(m, 0, 0, 1, 1, 1, 1, 0);
        sets(m, 2, 1, 1, 1, 0, 0, 1);
        Check.throwing("put(1, 2)", ELEMENT, () -> m.put(1, 2));
        Check.throwing("put(1, 0)", ELEMENT, () -> m.put(1, 0));
    }

    private static void thereBehindAll() {
        LazyMotion m = plannedDiamond();
        Check.due("behind one of two", m.set(3, THERE_BEFORE), 0);
        LazyMotion both = missedOnOneSide();
        both.plan();
        Check.due("behind 1 of 1 and 2", both.set(3, THERE_BEFORE), 0);
        both.end(0, GO, 0, 1, 0);
        both.plan();
        Check.due("behind the only one", both.set(3, THERE_BEFORE), 1);
    }

    private static void thereFromOutside() {
        LazyMotion m = loopAtStart();
        m.plan();
        Check.due("there behind 0", m.set(0, THERE_BEHIND), 1);
        Check.due("not there before 0, to which it goes", m.set(0, THERE_BEFORE), 0);
        LazyMotion endless = blocks(1);
        endless.statement(COMPUTE, 3, 0, PLUS, 1);
        endless.end(0, GO, 0, 0, 0);
        endless.plan();
        sets(endless, 0, 0, 1, 1, 1, 0, 1);
    }

    private static void thereBehind() {
        LazyMotion m = plannedDiamond();
        Check.due("what 0 leaves", m.set(0, THERE_BEHIND), 1);
        Check.due("there before 1, left by 1", m.set(1, THERE_BEHIND), 1);
        Check.due("there before 2", m.set(2, THERE_BEFORE), 1);
        Check.due("changed by 2", m.set(2, THERE_BEHIND), 0);
        Check.due("there before 1 and not changed", loopBetween(true).set(1, THERE_BEHIND), 1);
    }

    private static void wantedBefore() {
        LazyMotion m = plannedDiamond();
        Check.due("asked for by 0, not wanted behind it", m.set(0, WANTED_BEFORE), 1);
        Check.due("wanted behind 2", m.set(2, WANTED_BEHIND), 1);
        Check.due("changed by 2", m.set(2, WANTED_BEFORE), 0);
        Check.due("wanted behind 1 and not changed", loopBetween(false).set(1, WANTED_BEFORE), 1);
        LazyMotion changer = blocks(1);
        changer.statement(COMPUTE, 3, 0, PLUS, 1);
        changer.statement(SET, 0, 1, 0, 0);
        changer.plan();
        Check.due("asked for and changed", changer.set(0, WANTED_BEFORE), 1);
    }

    private static void wantedBeforeAll() {
        LazyMotion m = plannedDiamond();
        Check.due("before 1, not before 2", m.set(0, WANTED_BEHIND), 0);
        Check.due("before the only one", m.set(1, WANTED_BEHIND), 1);
        LazyMotion both = missedOnOneSide();
        both.plan();
        Check.due("before both", both.set(0, WANTED_BEHIND), 1);
        both.end(0, BRANCH, 2, 2, 1);
        both.end(2, STOP, 0, 0, 0);
        both.plan();
        Check.due("before the second alone", both.set(0, WANTED_BEHIND), 0);
    }

    private static void noSuccessor() {
        LazyMotion m = plannedDiamond();
        Check.due("set(3, 3)", m.set(3, WANTED_BEHIND), 0);
        LazyMotion only = blocks(1);
        only.statement(COMPUTE, 3, 0, PLUS, 1);
        only.plan();
        Check.due("set(0, 3)", only.set(0, WANTED_BEHIND), 0);
    }

    private static void earliestNotThere() {
        LazyMotion m = plannedDiamond();
        Check.due("wanted before 1, there behind 0", m.put(0, 1), 0);
        Check.due("wanted before 3, there behind 1", m.put(1, 3), 0);
        Check.due("not wanted before 2", m.put(0, 2), 0);
        Check.due("wanted before 3, not there behind 2", m.put(2, 3), 1);
    }

    /** 1, where 0+1 is asked for each time, goes to itself or to 2; so nothing may come later than in front of it. */
    private static LazyMotion loopBehind(boolean changed, boolean wayPast) {
        LazyMotion m = blocks(1);
        if (changed) {
            m.statement(SET, 0, 1, 0, 0);
        }
        if (wayPast) {
            m.end(0, BRANCH, 2, 1, 2);
        } else {
            m.end(0, GO, 0, 1, 0);
        }
        m.block();
        m.statement(COMPUTE, 3, 0, PLUS, 1);
        m.end(1, BRANCH, 2, 1, 2);
        m.block();
        m.plan();
        return m;
    }

    private static void earliestChangedOrNotWanted() {
        LazyMotion changed = loopBehind(true, false);
        Check.due("changed by 0, wanted behind it", changed.put(0, 1), 1);
        Check.due("not wanted before 0", changed.put(NONE, 0), 0);
        LazyMotion past = loopBehind(false, true);
        Check.due("not changed by 0, not wanted behind it", past.put(0, 1), 1);
        Check.due("not wanted on the way past", past.put(0, 2), 0);
        LazyMotion neither = blocks(1);
        neither.end(0, BRANCH, 2, 1, 2);
        neither.block();
        neither.statement(COMPUTE, 3, 0, PLUS, 1);
        neither.end(1, GO, 0, 0, 0);
        neither.block();
        neither.statement(COMPUTE, 4, 0, PLUS, 1);
        neither.plan();
        Check.due("neither changed by 0 nor not wanted behind it", neither.put(0, 1), 0);
        Check.due("but on the way to 0", neither.put(NONE, 0), 1);
    }

    private static void earliestOutside() {
        LazyMotion m = loopAtStart();
        m.plan();
        Check.due("wanted before block 0", m.set(0, WANTED_BEFORE), 1);
        Check.due("put in front of it", m.put(NONE, 0), 1);
        LazyMotion straight = blocks(1);
        straight.statement(COMPUTE, 3, 0, PLUS, 1);
        straight.plan();
        Check.due("late before block 0", straight.set(0, LATE_BEFORE), 1);
        Check.due("nothing in front of it", straight.put(NONE, 0), 0);
    }

    private static void later() {
        LazyMotion m = missedOnOneSide();
        m.plan();
        Check.due("late before 0, not asked for by it", m.set(1, LATE_BEFORE), 1);
        Check.due("late before 2", m.set(2, LATE_BEFORE), 1);
        Check.due("late before 2, not asked for by it: put behind it", m.put(2, 3), 1);
        Check.due("late before 1, asked for by it: not put behind it", m.put(1, 3), 0);
        Check.due("late before 0, as wanted from outside", m.set(0, LATE_BEFORE), 1);
        LazyMotion changed = blocks(1);
        changed.statement(SET, 0, 1, 0, 0);
        changed.end(0, GO, 0, 1, 0);
        changed.block();
        changed.statement(COMPUTE, 3, 0, PLUS, 1);
        changed.plan();
        Check.due("not late before 0", changed.set(0, LATE_BEFORE), 0);
        Check.due("earliest behind 0: late before 1", changed.set(1, LATE_BEFORE), 1);
        LazyMotion asked = blocks(1);
        asked.statement(COMPUTE, 3, 0, PLUS, 1);
        asked.statement(SET, 0, 1, 0, 0);
        asked.end(0, GO, 0, 1, 0);
        asked.block();
        asked.plan();
        Check.due("late before 0", asked.set(0, LATE_BEFORE), 1);
        Check.due("asked for by 0, then changed: not later behind it", asked.set(1, LATE_BEFORE), 0);
    }

    private static void lateOnAll() {
        LazyMotion m = missedOnOneSide();
        m.plan();
        Check.due("later on one of two edges", m.set(3, LATE_BEFORE), 0);
        m.end(0, GO, 0, 2, 0);
        m.plan();
        Check.due("later on the only edge", m.set(3, LATE_BEFORE), 1);
        LazyMotion loop = loopAtStart();
        loop.plan();
        Check.due("later on that from outside, not on that around", loop.set(0, LATE_BEFORE), 0);
    }

    private static void put() {
        LazyMotion m = missedOnOneSide();
        m.plan();
        Check.due("later, and not late before 3", m.put(2, 3), 1);
        Check.due("later, but late before 2", m.put(0, 2), 0);
        Check.due("later, but late before 1", m.put(0, 1), 0);
        Check.due("later, but late before 0", m.put(NONE, 0), 0);
        Check.due("not later", m.put(1, 3), 0);
    }

    private static void takenOut() {
        LazyMotion m = plannedDiamond();
        Check.due("asked for by 0, but late before it", m.set(0, TAKEN_OUT), 0);
        Check.due("asked for by 1", m.set(1, TAKEN_OUT), 1);
        Check.due("not asked for by 2", m.set(2, TAKEN_OUT), 0);
        Check.due("asked for by 3", m.set(3, TAKEN_OUT), 1);
    }

    private static void moved() {
        Check.due("taken out of two blocks", diamond().plan(), 1);
        Check.due("put, and taken out of none", unmoved().plan(), 0);
        Check.due("computed, and taken out of none", expressions(24).plan(), 0);
    }

    /** Of 1 and 2 only 1 computes 0+1; both go to 3, an endless loop, which wants all and asks for nothing. */
    private static LazyMotion unmoved() {
        LazyMotion m = blocks(1);
        m.end(0, BRANCH, 2, 1, 2);
        m.block();
        m.statement(COMPUTE, 3, 0, PLUS, 1);
        m.end(1, GO, 0, 3, 0);
        m.block();
        m.end(2, GO, 0, 3, 0);
        m.block();
        m.end(3, GO, 0, 3, 0);
        return m;
    }

    /** That they are 0 at first can't be seen, as each is set before it is taken: so many runs, each with its own. */
    private static void temporaries() {
        LazyMotion m = diamond();
        m.statement(COMPUTE, 4, 0, MINUS, 1);
        m.statement(COMPUTE, 4, 0, MINUS, 1);
        m.plan();
        for (int a = 1; a < 4; a++) {
            m.run(true, a, 10, 1);
            Check.due("5 by way of 1", m.variable(5), a + 10);
            Check.due("4 by way of 1", m.variable(4), a - 10);
            m.run(true, a, 20, 0);
            Check.due("5 by way of 2", m.variable(5), 29);
            Check.due("4 by way of 2", m.variable(4), -11);
        }
    }

    private static void movedOrNot() {
        LazyMotion m = unmoved();
        Check.due("moved", m.plan(), 0);
        Check.due("put", m.put(2, 3), 1);
        Check.due("computations as it was", m.run(false, 1, 2, 0), 0);
        Check.due("computations in the new program", m.run(true, 1, 2, 0), 1);
        Check.due("computed(0)", m.computed(0), 1);
        LazyMotion moved = missedOnOneSide();
        Check.due("moved, when 3 asks for it", moved.plan(), 1);
        Check.due("computations on the edge", moved.run(true, 1, 2, 0), 1);
    }

    /** 3 of the diamond goes back to 2: then the edge from 2 to 3 is gone along in each round. */
    private static void wheneverGoneAlong() {
        LazyMotion m = diamond();
        m.end(3, BRANCH, 0, 2, 4);
        m.block();
        m.plan();
        Check.due("put on the edge from 2 to 3", m.put(2, 3), 1);
        m.run(true, 0, 0, 0);
        Check.due("in 0, and 99 times between 2 and 3", m.computed(0), 100);
        m.run(true, 5, 0, 1);
        Check.due("not at first, if it comes by way of 1", m.computed(0), 99);
    }

    private static void severalOnEdge() {
        LazyMotion m = blocks(1);
        m.statement(COMPUTE, 3, 0, PLUS, 1);
        m.statement(COMPUTE, 4, 0, MINUS, 1);
        m.statement(COMPUTE, 5, 0, TIMES, 1);
        m.end(0, BRANCH, 2, 0, 1);
        m.block();
        m.plan();
        Check.due("put in front", m.put(NONE, 0), 0b111);
        Check.due("computations", m.run(true, 5, 3, 1), 3);
        for (int e = 0; e < 3; e++) {
            Check.due("computed(" + e + ")", m.computed(e), 1);
        }
        Check.due("plus", m.variable(3), 8);
        Check.due("minus", m.variable(4), 2);
        Check.due("times", m.variable(5), 15);
    }

    private static void edgeSetsTemporary() {
        LazyMotion m = plannedDiamond();
        m.run(true, 2, 3, 0);
        Check.due("the value that 0 and 1 have on the edge", m.variable(5), 12);
        LazyMotion loop = loopAtStart();
        loop.plan();
        loop.run(true, 40, 2, 1);
        Check.due("the value that they have outside", loop.variable(3), 42);
    }

    /** 1 asks for 0+1, which 0 has computed, changes 0, and computes it twice more; 2 computes it once more. */
    private static LazyMotion thrice() {
        LazyMotion m = blocks(1);
        m.statement(COMPUTE, 3, 0, PLUS, 1);
        m.end(0, GO, 0, 1, 0);
        m.block();
        m.statement(COMPUTE, 0, 0, PLUS, 1);
        m.statement(COMPUTE, 4, 0, PLUS, 1);
        m.statement(COMPUTE, 2, 0, PLUS, 1);
        m.end(1, GO, 0, 2, 0);
        m.block();
        m.statement(COMPUTE, 5, 0, PLUS, 1);
        m.plan();
        return m;
    }

    private static void firstTakesTemporary() {
        LazyMotion m = thrice();
        Check.due("taken out of 1", m.set(1, TAKEN_OUT), 1);
        Check.due("computations: in 0, and two of three in 1", m.run(true, 1, 10, 0), 3);
        Check.due("the first one's", m.variable(0), 11);
        LazyMotion straight = blocks(2);
        straight.end(0, GO, 0, 1, 0);
        straight.statement(COMPUTE, 3, 0, PLUS, 1);
        straight.statement(COMPUTE, 4, 0, PLUS, 1);
        straight.plan();
        Check.due("one that is not taken out is computed each time", straight.run(true, 1, 10, 0), 2);
    }

    private static void othersSetTemporary() {
        LazyMotion m = thrice();
        m.run(true, 1, 10, 0);
        Check.due("x of the second", m.variable(4), 21);
        Check.due("x of the third", m.variable(2), 21);
        Check.due("the temporary, taken in 2", m.variable(5), 21);
        Check.due("in the program as it was", m.run(false, 1, 10, 0), 5);
        Check.due("x in 2 as it was", m.variable(5), 21);
        LazyMotion first = plannedDiamond();
        first.run(true, 2, 3, 1);
        Check.due("set in 0, taken in 1", first.variable(4), 5);
        Check.due("and in 3", first.variable(5), 5);
    }
}
