/**
 * Each refusal of each call, with the numbers next to the bounds and at the ends of int and long,
 * in the document's order; what is refused changes nothing, and neither does a look.
 */
public final class RefusalsTest {
    private static final int BAD = Due.BAD, STATE = Due.STATE, FULL = Due.FULL, NONE = Due.NONE;
    private static final int ASKS = 7, LETTERS = 5;

    private RefusalsTest() {
    }

    public static void main(String[] args) {
        Scene busy = new Scene(RefusalsTest::busy);
        asking(busy);
        amounts(busy);
        agains(busy);
        ofAsks(busy);
        names(busy);
        letters(busy);
        flows(busy);
        falls(busy);
        servers(busy);
        leaves(busy);
        sums(busy);
        badAheadOfAll();
        fullOfLetters();
        fullOfAsks();
        ofNothing();
        Due.end("RefusalsTest");
    }

    /**
     * ASKS: 0 ANSWERED; 1 a FAR that is not through, 2 its own; 3 OPEN; 4 a CANCEL that is through,
     * but for its ANSWER; 5 OVER; 6 OPEN, its end down. The WINDOW of ASKER 0 is used up, SERVER 3
     * is down. LETTERS: 0 of ASK 2, 1 of ASK 3 (BENT), 2 ASK 4's ANSWER, 3 of ASK 5, 4 of ASK 6.
     */
    private static OnceOnly busy() {
        OnceOnly x = new OnceOnly(2);
        x.ask(0, 0, Due.ADD, 0, 0, 0, 100);
        x.flow(2);
        x.ask(0, 0, Due.FAR, 0, 2, 1, 30);
        x.deliver(0, 3);
        x.ask(0, 0, Due.READ, 0, 0, 0, 0);
        x.bend(1);
        x.ask(1, 0, Due.CANCEL, 0, 0, 0, 2);
        x.deliver(2, 3);
        x.ask(4, 2, Due.ADD, 0, 0, 0, 1);
        x.fall(4);
        x.rise(4);
        x.ask(5, 3, Due.ADD, 0, 0, 0, 1);
        x.fall(5);
        x.fall(9);
        return x;
    }

    private static void asking(Scene busy) {
        Due.promise(2);
        for (int n : Due.outside(0, 5)) {
            busy.unchanged("ask of asker " + n, x -> x.ask(n, 0, Due.ADD, 0, 0, 0, 1), BAD);
            busy.unchanged("ask, a " + n, x -> x.ask(1, 0, Due.ADD, n, 0, 0, 1), BAD);
            busy.unchanged("ask, b " + n, x -> x.ask(1, 0, Due.ADD, 0, n, 0, 1), BAD);
        }
        for (int name = 6; name < 10; name++) {
            int n = name;
            busy.unchanged("ask of a SERVER " + n, x -> x.ask(n, 0, Due.ADD, 0, 0, 0, 1), BAD);
        }
        for (int n : Due.outside(0, 3)) {
            busy.unchanged("ask, server " + n, x -> x.ask(1, n, Due.ADD, 0, 0, 0, 1), BAD);
            busy.unchanged("ask, t " + n, x -> x.ask(1, 0, Due.ADD, 0, 0, n, 1), BAD);
        }
        for (int n : Due.outside(0, 4)) busy.unchanged("ask, kind " + n, x -> x.ask(1, 0, n, 0, 0, 0, 1), BAD);
        busy.unchanged("ask, down", x -> x.ask(5, 0, Due.ADD, 0, 0, 0, 1), STATE);
        for (int kind = 0; kind < 5; kind++) {
            int k = kind;
            busy.unchanged("ask, no WINDOW", x -> x.ask(0, 0, k, 0, 0, 0, 1), FULL);
            for (int n : new int[] {0, 1, 4}) {
                Due.due("ask of one with room", busy.make().ask(n == 0 ? 3 : n, n % 4, k, 5, 5, 3, 1), ASKS);
            }
        }
    }

    private static void amounts(Scene busy) {
        Due.promise(2);
        int[] least = {-1000000, -1000000, 0, 0, 1};
        for (int kind = 0; kind < 5; kind++) {
            int k = kind;
            for (int n : Due.outside(least[k], 1000000)) {
                busy.unchanged("ask, kind " + k + ", amount " + n, x -> x.ask(1, 0, k, 0, 1, 1, n), BAD);
            }
            Due.due("the least of " + k, busy.make().ask(1, 0, k, 0, 1, 1, least[k]), ASKS);
            Due.due("the most of " + k, busy.make().ask(1, 0, k, 0, 1, 1, 1000000), ASKS);
        }
    }

    private static void agains(Scene busy) {
        Due.promise(3);
        for (int n : Due.outside(0, ASKS - 1)) busy.unchanged("again " + n, x -> x.again(n), BAD);
        busy.unchanged("again of an ANSWERED one", x -> x.again(0), STATE);
        busy.unchanged("again of an OVER one", x -> x.again(5), STATE);
        busy.unchanged("again, its end down", x -> x.again(6), STATE);
        for (int ask = 1; ask < 5; ask++) Due.due("again(" + ask + ")", busy.make().again(ask), LETTERS + 1);
        Scene down = new Scene(() -> {
            OnceOnly x = busy();
            x.fall(6);
            return x;
        });
        down.unchanged("again of a SERVER that is down", x -> x.again(2), STATE);
    }

    private static void ofAsks(Scene busy) {
        int[] states = {1, 0, 0, 0, 0, 2, 0};
        for (int n : Due.outside(0, ASKS - 1)) {
            Due.promise(4);
            for (int what = 0; what < 8; what++) {
                int k = what;
                busy.unchanged("told " + n, x -> x.told(n, k), BAD);
            }
            Due.promise(5);
            busy.unchanged("answer " + n, x -> x.answer(n), BAD);
            Due.promise(19);
            busy.unchanged("times " + n, x -> x.times(n), BAD);
            Due.promise(21);
            busy.unchanged("witness " + n, x -> x.witness(n), BAD);
            Due.promise(22);
            for (long w : new long[] {0, -1, BAD, Long.MAX_VALUE, Long.MIN_VALUE}) {
                busy.unchanged("check " + n, x -> x.check(n, w), BAD);
            }
        }
        Due.promise(4);
        for (int n : Due.outside(0, 7)) busy.unchanged("told, what " + n, x -> x.told(6, n), BAD);
        for (int ask = 0; ask < ASKS; ask++) {
            int k = ask;
            Due.promise(4);
            busy.unchanged("told(" + k + ", 5)", x -> x.told(k, 5), states[k]);
            busy.unchanged("told(" + k + ", 6)", x -> x.told(k, 6), k == 2 ? 1 : NONE);
            busy.unchanged("told(" + k + ", 7)", x -> x.told(k, 7), k == 1 ? 2 : NONE);
            Due.promise(5);
            busy.unchanged("answer(" + k + ")", x -> x.answer(k), k == 0 ? 100 : STATE);
            Due.promise(19);
            busy.unchanged("times(" + k + ")", x -> x.times(k), k < 2 ? 1 : 0);
            Due.promise(21);
            if (k > 0) busy.unchanged("witness(" + k + ")", x -> x.witness(k), STATE);
            Due.promise(22);
            for (long w : new long[] {0, 17, STATE, Long.MAX_VALUE, Long.MIN_VALUE}) {
                busy.unchanged("check(" + k + ")", x -> x.check(k, w), 0);
            }
        }
    }

    private static void names(Scene busy) {
        Due.promise(6);
        for (int what = 0; what < 3; what++) {
            int k = what;
            for (int n : Due.outside(0, 9)) busy.unchanged("name " + n, x -> x.name(n, k), BAD);
        }
        for (int name = 0; name < 10; name++) {
            int k = name;
            for (int n : Due.outside(0, 2)) busy.unchanged("name, what " + n, x -> x.name(k, n), BAD);
        }
        busy.unchanged("name(0, 0)", x -> x.name(0, 0), 2);
        busy.unchanged("name(9, 1)", x -> x.name(9, 1), 1);
        busy.unchanged("name(0, 2)", x -> x.name(0, 2), 4);
    }

    /** 128 and its like: a place that a row of a power of two would lead back into it. */
    private static int[] noLetters() {
        return new int[] {-1, LETTERS, 119, 120, 127, 128, 256, -128, Integer.MIN_VALUE, Integer.MAX_VALUE};
    }

    private static void letters(Scene busy) {
        for (int n : noLetters()) {
            Due.promise(7);
            for (int moment = 0; moment < 4; moment++) {
                int k = moment;
                busy.unchanged("deliver " + n, x -> x.deliver(n, k), BAD);
            }
            Due.promise(8);
            busy.unchanged("lose " + n, x -> x.lose(n), BAD);
            Due.promise(9);
            busy.unchanged("twice " + n, x -> x.twice(n), BAD);
            Due.promise(10);
            busy.unchanged("bend " + n, x -> x.bend(n), BAD);
            Due.promise(11);
            for (int what = 0; what < 5; what++) {
                int k = what;
                busy.unchanged("letter " + n, x -> x.letter(n, k), NONE);
            }
            for (int k : Due.outside(0, 4)) busy.unchanged("letter " + n + ", what " + k, x -> x.letter(n, k), BAD);
        }
        for (int letter = 0; letter < LETTERS; letter++) {
            int i = letter;
            Due.promise(7);
            for (int k : Due.outside(0, 3)) busy.unchanged("deliver, moment " + k, x -> x.deliver(i, k), BAD);
            Due.promise(11);
            for (int k : Due.outside(0, 4)) busy.unchanged("letter, what " + k, x -> x.letter(i, k), BAD);
            Due.promise(8);
            Due.due("lose(" + i + ")", busy.make().lose(i), LETTERS - 1);
            Due.promise(9);
            Due.due("twice(" + i + ")", busy.make().twice(i), LETTERS + 1);
            Due.promise(10);
            Due.due("bend(" + i + ")", busy.make().bend(i), i == 1 ? 0 : 1);
        }
        busy.unchanged("bend of a BENT one", x -> x.bend(1), 0);
    }

    private static void flows(Scene busy) {
        Due.promise(12);
        for (int n : Due.outside(1, 200)) busy.unchanged("flow " + n, x -> x.flow(n), BAD);
        Due.due("flow(1)", busy.make().flow(1), 1);
        // LETTERS 0, 3 are answered, and the ANSWER to a SERVER is, so that an ANSWER more comes.
        Due.due("flow(200)", busy.make().flow(200), LETTERS + 3);
    }

    private static void falls(Scene busy) {
        for (int n : Due.outside(0, 9)) {
            Due.promise(13);
            busy.unchanged("fall " + n, x -> x.fall(n), BAD);
            Due.promise(14);
            busy.unchanged("rise " + n, x -> x.rise(n), BAD);
        }
        for (int name = 0; name < 10; name++) {
            int n = name;
            boolean down = n == 5 || n == 9;
            Due.promise(13);
            if (down) busy.unchanged("fall " + n, x -> x.fall(n), STATE);
            else Due.due("fall " + n, busy.make().fall(n), 1);
            Due.promise(14);
            if (!down) busy.unchanged("rise " + n, x -> x.rise(n), STATE);
            else Due.due("rise " + n, busy.make().rise(n), n == 5 ? 2 : 1);
        }
    }

    private static void servers(Scene busy) {
        for (int n : Due.outside(0, 3)) {
            Due.promise(15);
            for (int a : new int[] {-1, 0, 5, 6}) busy.unchanged("account of " + n, x -> x.account(n, a), BAD);
            Due.promise(16);
            for (int k = 0; k < 3; k++) {
                int what = k;
                busy.unchanged("kept of " + n, x -> x.kept(n, 0, what), BAD);
            }
            Due.promise(17);
            busy.unchanged("record of " + n, x -> x.record(n, 0, 2), BAD);
        }
        for (int server = 0; server < 4; server++) {
            int s = server;
            Due.promise(15);
            for (int n : Due.outside(0, 5)) busy.unchanged("account " + n, x -> x.account(s, n), BAD);
            Due.promise(16);
            for (int n : Due.outside(0, 9)) busy.unchanged("kept, name " + n, x -> x.kept(s, n, 0), BAD);
            for (int n : Due.outside(0, 2)) busy.unchanged("kept, what " + n, x -> x.kept(s, 0, n), BAD);
            Due.promise(17);
            for (int n : Due.outside(0, 9)) busy.unchanged("record, name " + n, x -> x.record(s, n, 2), BAD);
            // No NUMBER is BAD: of those that are no NUMBERS there is none.
            for (int n : Due.outside(1, 300)) busy.unchanged("record " + n, x -> x.record(s, 0, n), 0);
        }
        busy.unchanged("record(0, 0, 2)", x -> x.record(0, 0, 2), Due.MIDST);
        busy.unchanged("record(0, 1, 2)", x -> x.record(0, 1, 2), Due.CANCELLED);
        busy.unchanged("record(0, 1, 1)", x -> x.record(0, 1, 1), Due.DONE);
    }

    private static void leaves(Scene busy) {
        Due.promise(18);
        for (int server = 0; server < 4; server++) {
            int s = server;
            for (int n : Due.outside(0, 5)) busy.unchanged("leave " + n, x -> x.leave(s, n), BAD);
            for (int n = 6; n < 10; n++) {
                int name = n;
                busy.unchanged("leave of a SERVER", x -> x.leave(s, name), BAD);
            }
        }
        for (int n : Due.outside(0, 3)) {
            for (int asker = 0; asker < 6; asker++) {
                int k = asker;
                busy.unchanged("leave to " + n, x -> x.leave(n, k), BAD);
            }
        }
        for (int asker = 0; asker < 6; asker++) {
            int k = asker;
            busy.unchanged("leave to one that is down", x -> x.leave(3, k), STATE);
        }
        busy.unchanged("leave, MIDST", x -> x.leave(0, 0), STATE);
        Due.due("leave, no MIDST", busy.make().leave(0, 1), 2);
        Due.due("leave, nothing there", busy.make().leave(2, 0), 0);
    }

    private static void sums(Scene busy) {
        Due.promise(20);
        for (int n : Due.outside(0, 2)) busy.unchanged("audit " + n, x -> x.audit(n), BAD);
        busy.unchanged("audit(0)", x -> x.audit(0), 70);
        busy.unchanged("audit(1)", x -> x.audit(1), 30);
        busy.unchanged("audit(2)", x -> x.audit(2), 100);
        Due.promise(23);
        for (int n : Due.outside(0, 7)) busy.unchanged("count " + n, x -> x.count(n), BAD);
        int[] due = {ASKS, 5, LETTERS, 4, 0, 3, 3, 2};
        for (int what = 0; what < 8; what++) {
            int k = what;
            busy.unchanged("count(" + k + ")", x -> x.count(k), due[k]);
        }
    }

    /** Where two refusals fit, the first of BAD, STATE, FULL is the answer. */
    private static void badAheadOfAll() {
        Due.sentence("Refusals are answers, the first of these that fits: BAD, STATE, FULL");
        Scene down = new Scene(() -> {
            OnceOnly x = busy();
            x.fall(0);
            x.fall(6);
            return x;
        });
        int[][] bad = {{0, 4, 1, 0, 0, 0, 1}, {0, 0, 5, 0, 0, 0, 1}, {0, 0, 1, 6, 0, 0, 1}, {0, 0, 1, 0, 6, 0, 1},
            {0, 0, 1, 0, 0, 4, 1}, {0, 0, 1, 0, 0, 0, 1000001}};
        for (int[] q : bad) {
            down.unchanged("ask, BAD, down, no WINDOW", x -> x.ask(q[0], q[1], q[2], q[3], q[4], q[5], q[6]), BAD);
        }
        down.unchanged("ask, down, no WINDOW", x -> x.ask(0, 0, Due.ADD, 0, 0, 0, 1), STATE);
        down.unchanged("leave, BAD, down", x -> x.leave(0, 6), BAD);
        down.unchanged("leave, down, MIDST", x -> x.leave(0, 0), STATE);
        down.unchanged("told, both BAD", x -> x.told(ASKS, 8), BAD);
        down.unchanged("letter, BAD and NONE", x -> x.letter(LETTERS, 5), BAD);
    }

    /** ASK 0 is OPEN, ASK 1 ANSWERED, ASK 2 OPEN, its end down; all 120 LETTERS are of ASK 0. */
    private static OnceOnly letters120() {
        OnceOnly x = new OnceOnly(1);
        x.ask(0, 0, Due.ADD, 0, 0, 0, 7);
        x.ask(1, 0, Due.ADD, 0, 0, 0, 7);
        x.deliver(1, 3);
        x.deliver(1, 3);
        x.ask(2, 0, Due.ADD, 0, 0, 0, 7);
        x.fall(2);
        x.lose(1);
        for (int i = 1; i < 120; i++) x.twice(0);
        return x;
    }

    private static void fullOfLetters() {
        Scene full = new Scene(RefusalsTest::letters120);
        Due.promise(3);
        full.unchanged("again(0)", x -> x.again(0), FULL);
        full.unchanged("again(1), STATE and FULL", x -> x.again(1), STATE);
        full.unchanged("again(2), STATE and FULL", x -> x.again(2), STATE);
        for (int n : Due.outside(0, 2)) full.unchanged("again, BAD and FULL", x -> x.again(n), BAD);
        Due.promise(9);
        for (int i : new int[] {0, 1, 60, 118, 119}) full.unchanged("twice(" + i + ")", x -> x.twice(i), FULL);
        for (int n : Due.outside(0, 119)) full.unchanged("twice, BAD and FULL", x -> x.twice(n), BAD);
        Due.promise(2);
        full.unchanged("ask, STATE", x -> x.ask(2, 0, Due.ADD, 0, 0, 0, 7), STATE);
        full.unchanged("ask, no WINDOW", x -> x.ask(0, 0, Due.ADD, 0, 0, 0, 7), FULL);
        Due.due("ask is not refused", full.make().ask(1, 0, Due.ADD, 0, 0, 0, 7), 3);
        Due.promise(11);
        full.unchanged("letter(119, 0)", x -> x.letter(119, 0), 0);
        full.unchanged("letter(120, 0)", x -> x.letter(120, 0), NONE);
        Due.promise(7);
        full.unchanged("deliver(120, 3)", x -> x.deliver(120, 3), BAD);
        Due.due("deliver(119, 3)", full.make().deliver(119, 3), 1);
    }

    private static OnceOnly asks300() {
        OnceOnly x = Due.withAsks(299);
        x.ask(0, 3, Due.ADD, 0, 0, 0, 1);
        x.fall(5);
        return x;
    }

    private static void fullOfAsks() {
        Scene full = new Scene(RefusalsTest::asks300);
        Due.promise(2);
        for (int asker = 0; asker < 5; asker++) {
            int k = asker;
            full.unchanged("ask", x -> x.ask(k, 0, Due.ADD, 0, 0, 0, 1), FULL);
        }
        full.unchanged("ask, STATE and FULL", x -> x.ask(5, 0, Due.ADD, 0, 0, 0, 1), STATE);
        full.unchanged("ask, BAD and FULL", x -> x.ask(6, 0, Due.ADD, 0, 0, 0, 1), BAD);
        Due.promise(4);
        full.unchanged("told(299, 0)", x -> x.told(299, 0), 0);
        full.unchanged("told(300, 0)", x -> x.told(300, 0), BAD);
        Due.promise(3);
        full.unchanged("again(300)", x -> x.again(300), BAD);
        full.unchanged("again(298)", x -> x.again(298), STATE);
        Due.due("again(299)", full.make().again(299), 2);
    }

    /** A new object: nothing is there that a number could name. */
    private static void ofNothing() {
        Scene fresh = new Scene(() -> new OnceOnly(4));
        for (int n : new int[] {0, 1, 299, 300}) {
            Due.promise(3);
            fresh.unchanged("again(" + n + ")", x -> x.again(n), BAD);
            Due.promise(4);
            fresh.unchanged("told(" + n + ", 0)", x -> x.told(n, 0), BAD);
            Due.promise(5);
            fresh.unchanged("answer(" + n + ")", x -> x.answer(n), BAD);
            Due.promise(19);
            fresh.unchanged("times(" + n + ")", x -> x.times(n), BAD);
            Due.promise(21);
            fresh.unchanged("witness(" + n + ")", x -> x.witness(n), BAD);
            Due.promise(22);
            fresh.unchanged("check(" + n + ", 0)", x -> x.check(n, 0), BAD);
            Due.promise(7);
            fresh.unchanged("deliver(" + n + ", 3)", x -> x.deliver(n, 3), BAD);
            Due.promise(8);
            fresh.unchanged("lose(" + n + ")", x -> x.lose(n), BAD);
            Due.promise(9);
            fresh.unchanged("twice(" + n + ")", x -> x.twice(n), BAD);
            Due.promise(10);
            fresh.unchanged("bend(" + n + ")", x -> x.bend(n), BAD);
            Due.promise(11);
            fresh.unchanged("letter(" + n + ", 0)", x -> x.letter(n, 0), NONE);
        }
        Due.promise(12);
        fresh.unchanged("flow(1)", x -> x.flow(1), 0);
        fresh.unchanged("flow(200)", x -> x.flow(200), 0);
        fresh.unchanged("flow(0)", x -> x.flow(0), BAD);
        Due.promise(17);
        fresh.unchanged("record(0, 0, 1)", x -> x.record(0, 0, 1), 0);
    }
}
