/** Random runs of 512 calls, the same on the class and on the Model: all answers must be one. */
public final class ModelTest {
    private static final int RUNS = 3000, CALLS = 512;
    private static final int[] EDGES = {-1, 0, 1, 2, 3, 4, 5, 6, 7, 8, 9, 10, 15, 16, 17, 119, 120, 199, 200, 201, 299,
        300, 301, 1000000, 1000001, -1000000, -1000001, Integer.MAX_VALUE, Integer.MIN_VALUE, Integer.MAX_VALUE - 5};

    // What kinds of calls a run makes most: a weight for each of ask .. rise, leave, and a look.
    //                                     ask again deliver lose twice bend flow fall rise leave look
    private static final int[][] WEIGHTS = {{20, 8, 40, 2, 4, 1, 3, 2, 6, 2, 30},
        {60, 2, 4, 1, 2, 1, 12, 0, 1, 1, 12},
        {50, 10, 3, 1, 30, 1, 0, 0, 1, 1, 12},
        {15, 15, 30, 5, 8, 4, 1, 6, 18, 3, 25},
        {25, 6, 30, 2, 6, 0, 6, 1, 3, 8, 30},
        {30, 3, 20, 1, 3, 0, 12, 0, 2, 0, 20}};

    private long seed;
    private OnceOnly x;
    private Model m;
    private int askers, servers, wildness, farness, manySteps;
    private boolean fallsOften;
    private int mostAsks, mostLetters, mostLost, overs, notLet;

    private ModelTest(long seed) {
        this.seed = seed;
    }

    public static void main(String[] args) {
        int runs = args.length > 0 ? Integer.parseInt(args[0]) : RUNS;
        ModelTest test = new ModelTest(args.length > 1 ? Long.parseLong(args[1]) : 20261119L);
        for (int run = 0; run < runs; run++) test.run(run);
        Due.promise(0);
        Due.due("some run has 300 ASKS", test.mostAsks, 300);
        Due.due("some run has 120 LETTERS", test.mostLetters, 120);
        Due.due("some run loses LETTERS without room", test.mostLost > 0 ? 1 : 0, 1);
        Due.due("ASKS are OVER", test.overs > 0 ? 1 : 0, 1);
        Due.due("what is NOT LET is answered", test.notLet > 0 ? 1 : 0, 1);
        Due.end("ModelTest");
    }

    /** From 0 to below the bound; the same for the same seed, on every machine. */
    private int any(int bound) {
        seed = seed * 6364136223846793005L + 1442695040888963407L;
        return (int) ((seed >>> 33) % bound);
    }

    /** Most often below the bound, now and then an edge or a number far off. */
    private int some(int bound) {
        if (any(1000) < wildness) return EDGES[any(EDGES.length)];
        return any(Math.max(1, bound));
    }

    private void run(int run) {
        int window = run % 3 == 0 ? 16 : run % 3 == 1 ? any(20) - 1 : 1 + any(4);
        x = new OnceOnly(window);
        m = new Model(window);
        askers = 1 + any(6);
        servers = 1 + any(4);
        wildness = any(3) == 0 ? 40 : any(2) == 0 ? 3 : 0;
        farness = any(3) * 3;
        manySteps = 1 + any(30);
        fallsOften = any(3) == 0;
        int[] weights = WEIGHTS[any(WEIGHTS.length)];
        for (int call = 0; call < CALLS; call++) step(weights);
        mostAsks = Math.max(mostAsks, m.count(0));
        mostLetters = Math.max(mostLetters, m.count(2));
        if (m.count(2) == 120) mostLost = Math.max(mostLost, m.count(4));
        for (int ask = 0; ask < m.count(0); ask++) {
            if (m.told(ask, 5) == Due.IS_OVER) overs++;
            if (m.answer(ask) == -1) notLet++;
        }
        Due.due("run " + run + ": money stays", m.audit(0) + m.audit(1), m.audit(2));
    }

    private void step(int[] weights) {
        int sum = 0;
        for (int weight : weights) sum += weight;
        int drawn = any(sum);
        int which = 0;
        while (drawn >= weights[which]) drawn -= weights[which++];
        switch (which) {
            case 0: ask(); break;
            case 1: again(some(m.count(0))); break;
            case 2: deliver(any(3) == 0 ? 0 : some(m.count(2))); break;
            case 3: lose(some(m.count(2))); break;
            case 4: twice(some(m.count(2))); break;
            case 5: bend(some(m.count(2))); break;
            case 6: flow(some(manySteps * 7) + 1); break;
            case 7: fall(some(10)); break;
            case 8: rise(some(10)); break;
            case 9: leave(some(servers), some(askers)); break;
            default: look(); break;
        }
    }

    private void ask() {
        int kind = any(10) < farness ? 3 : some(5);
        int amount = kind == 4 ? 1 + any(any(2) == 0 ? 8 : 40) : kind == 1 && any(3) > 0 ? any(1000) : any(400);
        if (kind < 2 && any(4) == 0) amount = -any(300);
        if (any(1000) < wildness) amount = EDGES[any(EDGES.length)];
        int[] q = {some(askers), some(servers), kind, some(any(2) == 0 ? 2 : 6), some(6), some(servers), amount};
        String call = "ask " + java.util.Arrays.toString(q);
        int want = m.ask(q[0], q[1], q[2], q[3], q[4], q[5], q[6]);
        Due.due(call, x.ask(q[0], q[1], q[2], q[3], q[4], q[5], q[6]), want);
    }

    private void again(int ask) {
        Due.due("again(" + ask + ")", x.again(ask), m.again(ask));
    }

    private void deliver(int i) {
        int moment = any(fallsOften ? 3 : 12) == 0 ? some(4) : 3;
        Due.due("deliver(" + i + ", " + moment + ")", x.deliver(i, moment), m.deliver(i, moment));
    }

    private void lose(int i) {
        Due.due("lose(" + i + ")", x.lose(i), m.lose(i));
    }

    private void twice(int i) {
        Due.due("twice(" + i + ")", x.twice(i), m.twice(i));
    }

    private void bend(int i) {
        Due.due("bend(" + i + ")", x.bend(i), m.bend(i));
    }

    private void flow(int n) {
        Due.due("flow(" + n + ")", x.flow(n), m.flow(n));
    }

    private void fall(int name) {
        Due.due("fall(" + name + ")", x.fall(name), m.fall(name));
    }

    private void rise(int name) {
        Due.due("rise(" + name + ")", x.rise(name), m.rise(name));
    }

    private void leave(int server, int asker) {
        Due.due("leave(" + server + ", " + asker + ")", x.leave(server, asker), m.leave(server, asker));
    }

    private void look() {
        int ask = some(m.count(0));
        int server = some(servers);
        int name = some(10);
        int what = some(8);
        switch (any(12)) {
            case 0: Due.due("told(" + ask + ", " + what + ")", x.told(ask, what), m.told(ask, what)); break;
            case 1: Due.due("answer(" + ask + ")", x.answer(ask), m.answer(ask)); break;
            case 2: lookAtName(name, some(3)); break;
            case 3: lookAtLetter(some(m.count(2)), some(5)); break;
            case 4: lookAtAccount(server, some(6)); break;
            case 5: lookAtKept(server, name, some(3)); break;
            case 6: lookAtRecord(server, name, some(6) + Math.max(0, m.kept(server, name, 1) - 2)); break;
            case 7: Due.due("times(" + ask + ")", x.times(ask), m.times(ask)); break;
            case 8: Due.due("audit(" + what % 4 + ")", x.audit(what % 4), m.audit(what % 4)); break;
            case 9: Due.due("witness(" + ask + ")", x.witness(ask), m.witness(ask)); break;
            case 10: lookAtCheck(ask, m.witness(ask) + any(2)); break;
            default: Due.due("count(" + what + ")", x.count(what), m.count(what)); break;
        }
    }

    private void lookAtName(int name, int what) {
        Due.due("name(" + name + ", " + what + ")", x.name(name, what), m.name(name, what));
    }

    private void lookAtLetter(int i, int what) {
        Due.due("letter(" + i + ", " + what + ")", x.letter(i, what), m.letter(i, what));
    }

    private void lookAtAccount(int server, int a) {
        Due.due("account(" + server + ", " + a + ")", x.account(server, a), m.account(server, a));
    }

    private void lookAtKept(int server, int name, int what) {
        String call = "kept(" + server + ", " + name + ", " + what + ")";
        Due.due(call, x.kept(server, name, what), m.kept(server, name, what));
    }

    private void lookAtRecord(int server, int name, int number) {
        String call = "record(" + server + ", " + name + ", " + number + ")";
        Due.due(call, x.record(server, name, number), m.record(server, name, number));
    }

    private void lookAtCheck(int ask, long witness) {
        Due.due("check(" + ask + ", " + witness + ")", x.check(ask, witness), m.check(ask, witness));
    }
}
