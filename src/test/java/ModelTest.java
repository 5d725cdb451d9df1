import java.util.Random;

/** Long random runs of calls, each answer held against the model of the document. */
public final class ModelTest {
    private static final int OBJECTS = 1500;
    private static final int CALLS = 512;

    private final Random random;
    private final LazyMotion program = new LazyMotion();
    private final DocumentModel model = new DocumentModel();
    private final int seed;
    private final int blockLimit;
    private final int variables;
    private final int operators;
    private final int computeShare;
    private int calls = 0;

    private ModelTest(int seed) {
        this.seed = seed;
        random = new Random(seed);
        blockLimit = 1 + random.nextInt(16);
        // Few variables and operators let the same expression come again and again.
        variables = 2 + random.nextInt(5);
        operators = 1 + random.nextInt(5);
        computeShare = 2 + random.nextInt(8);
    }

    public static void main(String[] args) {
        for (int seed = 0; seed < OBJECTS; seed++) {
            new ModelTest(seed).go();
        }
        Check.end("ModelTest");
    }

    private void go() {
        build();
        while (calls < CALLS) {
            plan();
            look();
            change();
        }
    }

    private void same(String what, Check.Call got, Check.Call want) {
        calls++;
        // What calls behind the 512th answer is free.
        if (calls <= CALLS) {
            Check.due("object " + seed + ", call " + calls + ": " + what, Check.told(got), Check.told(want));
        }
    }

    private void build() {
        int blocks = 1 + random.nextInt(blockLimit);
        for (int b = 0; b < blocks; b++) {
            block();
            int size = random.nextInt(7);
            for (int i = 0; i < size; i++) {
                statement();
            }
        }
        for (int b = 0; b < blocks; b++) {
            end(b, blocks);
        }
    }

    private void change() {
        int blocks = model.count(0);
        int which = random.nextInt(10);
        if (which == 0) {
            block();
        } else if (which < 4) {
            statement();
        } else if (which < 8) {
            end(random.nextInt(blocks), blocks);
        }
        if (random.nextInt(3) == 0) {
            look();
        }
    }

    private void block() {
        same("block()", program::block, model::block);
    }

    private void plan() {
        same("plan()", program::plan, model::plan);
    }

    private void statement() {
        int kind = random.nextInt(10) < computeShare ? 2 : odd(4);
        int x = odd(variables);
        int a = kind == 1 && random.nextInt(4) == 0 ? shortEdge() : odd(variables);
        int b = odd(operators);
        int c = odd(variables);
        same("statement(" + kind + ", " + x + ", " + a + ", " + b + ", " + c + ")",
                () -> program.statement(kind, x, a, b, c), () -> model.statement(kind, x, a, b, c));
    }

    private void end(int block, int blocks) {
        int at = random.nextInt(40) == 0 ? odd(16) : block;
        int kind = random.nextInt(20) == 0 ? odd(3) : random.nextInt(5) == 0 ? 1 : 2;
        int x = odd(variables);
        int a = random.nextInt(60) == 0 ? odd(16) : random.nextInt(blocks);
        int b = random.nextInt(60) == 0 ? odd(16) : random.nextInt(blocks);
        same("end(" + at + ", " + kind + ", " + x + ", " + a + ", " + b + ")",
                () -> program.end(at, kind, x, a, b), () -> model.end(at, kind, x, a, b));
    }

    private void look() {
        int blocks = model.count(0);
        for (int b = 0; b < blocks; b++) {
            set(b, random.nextInt(6));
        }
        set(odd(blocks), odd(6));
        for (int i = 0; i < blocks; i++) {
            put(random.nextInt(blocks), random.nextInt(blocks));
        }
        put(LazyMotion.NONE, 0);
        put(odd(blocks), odd(blocks));
        expression();
        runBoth();
    }

    private void set(int b, int what) {
        same("set(" + b + ", " + what + ")", () -> program.set(b, what), () -> model.set(b, what));
    }

    private void put(int a, int b) {
        same("put(" + a + ", " + b + ")", () -> program.put(a, b), () -> model.put(a, b));
    }

    private void expression() {
        int y = odd(variables);
        int op = odd(operators);
        int z = odd(variables);
        same("expression(" + y + ", " + op + ", " + z + ")",
                () -> program.expression(y, op, z), () -> model.expression(y, op, z));
    }

    private void runBoth() {
        int a = number();
        int b = number();
        int c = number();
        String inputs = ", " + a + ", " + b + ", " + c + ")";
        same("run(false" + inputs, () -> program.run(false, a, b, c), () -> model.run(false, a, b, c));
        lookAtRun();
        same("run(true" + inputs, () -> program.run(true, a, b, c), () -> model.run(true, a, b, c));
        lookAtRun();
    }

    private void lookAtRun() {
        same("outs()", program::outs, model::outs);
        int last = model.outs() - 1;
        for (int i : new int[] {0, last, last + 1, odd(100)}) {
            same("out(" + i + ")", () -> program.out(i), () -> model.out(i));
        }
        int x = odd(6);
        same("variable(" + x + ")", () -> program.variable(x), () -> model.variable(x));
        int e = odd(24);
        same("computed(" + e + ")", () -> program.computed(e), () -> model.computed(e));
        int what = odd(4);
        same("count(" + what + ")", () -> program.count(what), () -> model.count(what));
    }

    /** Mostly 0 .. n - 1, sometimes next to it or far off. */
    private int odd(int n) {
        int which = random.nextInt(80);
        if (which == 0) {
            return -1;
        }
        if (which == 1) {
            return n;
        }
        if (which == 2) {
            return random.nextInt();
        }
        return random.nextInt(Math.max(n, 1));
    }

    private int shortEdge() {
        int[] edges = {-32769, -32768, 32767, 32768, Integer.MIN_VALUE, Integer.MAX_VALUE};
        return edges[random.nextInt(edges.length)];
    }

    private int number() {
        return random.nextBoolean() ? random.nextInt(7) - 3 : random.nextInt();
    }
}
