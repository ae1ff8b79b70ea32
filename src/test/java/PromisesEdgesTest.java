/**
 * The sentences of the promises that name a boundary, one after another; what is refused is in RefusalsTest.
 */
public final class PromisesEdgesTest {
    private PromisesEdgesTest() {
    }

    public static void main(String[] args) {
        window();
        askAnswersItsAsk();
        againCounts();
        toldOfFars();
        answersAtTheEdges();
        namesAtTheEdges();
        deliverCounts();
        losesAtBothEnds();
        twiceAtBothEnds();
        bendsAtBothEnds();
        lettersAtBothEnds();
        flowsUpToN();
        flowsUntilNoneIsThere();
        fallsOfAll();
        risesOfAll();
        keptOfSomeNames();
        recordsAtTheEdges();
        leavesOfAll();
        leaveOfMidst();
        timesIsOneAtMost();
        sums();
        sumsOfWhatIsNoMoney();
        witnesses();
        witnessOfOwnAsk();
        checks();
        counts();
        countsAtTheMost();
        Due.end("PromisesEdgesTest");
    }

    private static void window() {
        Due.sentence("w is window, but 1 at least, 16 at most");
        int[][] windows = {{Integer.MIN_VALUE, 1}, {Integer.MIN_VALUE + 1, 1}, {-16, 1}, {-1, 1}, {0, 1}, {1, 1}, {2, 2},
            {8, 8}, {15, 15}, {16, 16}, {17, 16}, {32, 16}, {Integer.MAX_VALUE - 1, 16}, {Integer.MAX_VALUE, 16}};
        for (int[] pair : windows) {
            OnceOnly x = new OnceOnly(pair[0]);
            Due.due("count(7)", x.count(7), pair[1]);
            for (int i = 0; i < pair[1]; i++) Due.due("one within", x.ask(0, 0, Due.READ, 0, 0, 0, 0), i);
            Due.due("one more", x.ask(0, 0, Due.READ, 0, 0, 0, 0), Due.FULL);
            x.ask(1, 1, Due.CANCEL, 0, 0, 0, pair[1] + 1);
            x.deliver(pair[1], 3);
            Due.due("of LOW and w", x.record(1, 1, pair[1] + 1), Due.NO_RECORD);
            x.ask(2, 2, Due.CANCEL, 0, 0, 0, pair[1]);
            x.deliver(pair[1] + 1, 3);
            Due.due("of LOW and w - 1", x.record(2, 2, pair[1]), pair[1] == 1 ? Due.DONE : Due.CANCELLED);
        }
    }

    private static void askAnswersItsAsk() {
        Due.sentence("An ASKER asks a SERVER: its ASK; a LETTER is sent");
        OnceOnly x = new OnceOnly(1);
        int[][] corners = {{0, 0, 0, 0, 0, 0, -1000000}, {1, 3, 1, 5, 5, 3, 1000000}, {2, 0, 2, 0, 5, 3, 0},
            {3, 3, 3, 5, 0, 0, 0}, {4, 1, 4, 5, 5, 3, 1}, {5, 2, 4, 0, 0, 0, 1000000}};
        for (int i = 0; i < 6; i++) {
            int[] q = corners[i];
            Due.due("ask", x.ask(q[0], q[1], q[2], q[3], q[4], q[5], q[6]), i);
            Due.due("LETTERS", x.count(2), i + 1);
            Due.due("the last LETTER", x.letter(i, 0), i);
            Due.due("its NAME", x.told(i, 0), q[0]);
            Due.due("its SERVER", x.told(i, 3), q[1]);
            Due.due("its KIND", x.told(i, 4), q[2]);
        }
        x.flow(200);
        long[] answers = {0, 1000000, 0, 1000000, 0, 3};
        for (int i = 0; i < 6; i++) Due.due("answer(" + i + ")", x.answer(i), answers[i]);
    }

    private static void againCounts() {
        Due.sentence("The LETTER of an ASK that is OPEN is sent again: how many LETTERS are under way");
        OnceOnly x = new OnceOnly(1);
        x.ask(0, 0, Due.ADD, 0, 0, 0, 1);
        Due.due("lose", x.lose(0), 0);
        for (int under = 1; under <= 120; under++) Due.due("again", x.again(0), under);
        Due.due("one more", x.again(0), Due.FULL);
        Due.due("none is lost by that", x.count(4), 1);
        Due.due("its ANSWER is under way", x.deliver(119, 3), 1);
        Due.due("OPEN yet, but no room", x.again(0), Due.FULL);
        x.lose(0);
        Due.due("OPEN yet", x.again(0), 120);
        x.deliver(118, 3);
        Due.due("it is ANSWERED", x.again(0), Due.STATE);
    }

    private static void toldOfFars() {
        Due.sentence("6 the FAR for which it was made (NONE), 7 its own ASK, if it is a FAR that has one (NONE)");
        OnceOnly x = new OnceOnly(4);
        x.ask(0, 0, Due.FAR, 0, 0, 1, 1);
        x.ask(0, 0, Due.FAR, 0, 0, 1, 0);
        x.ask(0, 0, Due.ADD, 0, 0, 0, 0);
        for (int i = 0; i < 3; i++) Due.due("none yet", x.told(i, 7), Due.NONE);
        x.flow(200);
        int[] own = {Due.NONE, 3, Due.NONE, Due.NONE};
        int[] far = {Due.NONE, Due.NONE, Due.NONE, 1};
        for (int i = 0; i < 4; i++) {
            Due.due("told(" + i + ", 6)", x.told(i, 6), far[i]);
            Due.due("told(" + i + ", 7)", x.told(i, 7), own[i]);
            Due.due("told(" + i + ", 5)", x.told(i, 5), Due.IS_ANSWERED);
        }
    }

    private static void answersAtTheEdges() {
        Due.sentence("The ANSWER of an ASK. BAD as a long; STATE as a long: it is not ANSWERED");
        OnceOnly x = new OnceOnly(4);
        Due.due("0", x.answer(Due.asks(x, Due.READ, 0, 0, 0, 0)), 0);
        Due.due("NOT LET", x.answer(Due.asks(x, Due.ADD, 0, 0, -1, -1)), -1);
        Due.asks(x, Due.CANCEL, 0, 0, 4, 1);
        Due.due("CANCELLED", x.answer(Due.asks(x, Due.ADD, 0, 0, 1, -2)), -2);
        for (int i = 0; i < 4; i++) Due.due("they stay", x.told(i, 5), Due.IS_ANSWERED);
        Due.due("BAD as a long", x.answer(4), -2000001L);
        x.ask(0, 0, Due.READ, 0, 0, 0, 0);
        Due.due("STATE as a long", x.answer(4), -2000002L);
    }

    private static void namesAtTheEdges() {
        Due.sentence("LOWEST (what = 0), the LIFE (1), the next NUMBER (2) of a NAME");
        OnceOnly x = new OnceOnly(16);
        for (int name = 0; name < 10; name++) Due.name(x, name, 1, 1, 1);
        x.ask(5, 3, Due.FAR, 0, 0, 0, 0);
        Due.name(x, 5, 1, 1, 2);
        Due.name(x, 9, 1, 1, 1);
        x.flow(1);
        Due.name(x, 9, 1, 1, 2);
        x.flow(200);
        Due.name(x, 5, 2, 1, 2);
        Due.name(x, 9, 2, 1, 2);
        Due.name(x, 0, 1, 1, 1);
        Due.name(x, 6, 1, 1, 1);
        for (int i = 0; i < 290; i++) {
            x.ask(0, 0, Due.READ, 0, 0, 0, 0);
            if (i % 8 == 7) x.flow(16);
        }
        x.flow(200);
        Due.name(x, 0, 291, 1, 291);
        Due.kept(x, 0, 0, 1, 289, 0);
    }

    private static void deliverCounts() {
        Due.sentence("LETTER i comes, and is under way no more: how many LETTERS it makes leave");
        OnceOnly x = Due.withLetters(120);
        Due.due("the last", x.deliver(119, 3), 1);
        Due.due("the first", x.deliver(0, 3), 1);
        Due.due("count(2)", x.count(2), 120);
        Due.due("an ANSWER", x.deliver(119, 3), 0);
        Due.due("count(2)", x.count(2), 119);
        Due.due("none there", x.deliver(119, 3), Due.BAD);
        Due.due("the last", x.deliver(118, 3), 0);
        Due.due("count(2)", x.count(2), 118);
        Due.due("count(3)", x.count(3), 4);
    }

    private static void losesAtBothEnds() {
        Due.sentence("LETTER i is lost: how many are under way");
        OnceOnly x = new OnceOnly(1);
        for (int asker = 0; asker < 5; asker++) x.ask(asker, 0, Due.ADD, 0, 0, 0, 1);
        int[][] loses = {{4, 4}, {0, 3}, {1, 2}, {1, 1}, {0, 0}};
        int[] firsts = {0, 1, 1, 1, Due.NONE};
        for (int i = 0; i < 5; i++) {
            Due.due("past the last", x.lose(5 - i), Due.BAD);
            Due.due("lose(" + loses[i][0] + ")", x.lose(loses[i][0]), loses[i][1]);
            Due.due("letter(0, 0)", x.letter(0, 0), firsts[i]);
            Due.due("count(4)", x.count(4), i + 1);
        }
        Due.due("none is there", x.lose(0), Due.BAD);
    }

    private static void twiceAtBothEnds() {
        Due.sentence("Another one just like LETTER i comes behind: how many are under way");
        OnceOnly x = new OnceOnly(1);
        for (int asker = 0; asker < 3; asker++) x.ask(asker, 0, Due.ADD, 0, 0, 0, 1);
        x.bend(2);
        Due.due("the last", x.twice(2), 4);
        Due.due(x, 3, 2, 0, 1, 1, 0);
        Due.due("the first", x.twice(0), 5);
        Due.due(x, 4, 0, 0, 1, 0, 0);
        Due.due("bend of the one", x.bend(0), 1);
        Due.due("is not of the other", x.letter(4, 3), 0);
        Due.due("bend of the other", x.bend(4), 1);
        Due.due("past the last", x.twice(5), Due.BAD);
        x.lose(3);
        Due.due("the one behind is there", x.letter(3, 0), 0);
        x = Due.withLetters(118);
        Due.due("119", x.twice(117), 119);
        Due.due("120", x.twice(118), 120);
        Due.due("no room", x.twice(119), Due.FULL);
        x.lose(0);
        Due.due("room", x.twice(118), 120);
    }

    private static void bendsAtBothEnds() {
        Due.sentence("LETTER i is BENT: 1; it is already: 0");
        OnceOnly x = Due.withLetters(120);
        for (int i : new int[] {0, 119, 60}) {
            Due.due("bend(" + i + ")", x.bend(i), 1);
            Due.due("bend(" + i + ")", x.bend(i), 0);
            Due.due("bend(" + i + ")", x.bend(i), 0);
            Due.due("letter(" + i + ", 3)", x.letter(i, 3), 1);
        }
        for (int i : new int[] {1, 59, 61, 118}) Due.due("letter(" + i + ", 3)", x.letter(i, 3), 0);
        Due.due("the first, BENT", x.deliver(0, 3), 0);
        Due.due("the next, whole", x.deliver(0, 3), 1);
        Due.due("the last but one, BENT", x.deliver(117, 3), 0);
        Due.due("an ANSWER", x.letter(117, 1), 1);
        Due.due("it is BENT", x.bend(117), 1);
        Due.due("already", x.bend(117), 0);
        x.deliver(117, 3);
        Due.due("and does nothing", x.told(0, 5), Due.IS_OPEN);
    }

    private static void lettersAtBothEnds() {
        Due.sentence("Of LETTER i: 0 its ASK .. 4 whether it is OVER. NONE: there are not so many");
        OnceOnly x = Due.withLetters(120);
        Due.due(x, 0, 0, 0, 1, 0, 0);
        Due.due(x, 119, 0, 0, 1, 0, 0);
        for (int what = 0; what < 5; what++) {
            for (int i : new int[] {120, 121, 127, 128, 255, Integer.MAX_VALUE}) {
                Due.due("letter(" + i + ", " + what + ")", x.letter(i, what), Due.NONE);
            }
        }
        x.flow(120);
        Due.due(x, 0, 0, 1, Due.NONE, 0, 0);
        Due.due(x, 119, 0, 1, Due.NONE, 0, 0);
        x.lose(0);
        Due.due("letter(119, 0)", x.letter(119, 0), Due.NONE);
        Due.due("letter(118, 0)", x.letter(118, 0), 0);
    }

    private static void flowsUpToN() {
        Due.sentence("LETTERS come, each the first one, whole (MOMENT 3), up to n (1 .. 200)");
        for (int n = 1; n <= 6; n++) {
            OnceOnly x = new OnceOnly(1);
            for (int asker = 0; asker < 3; asker++) x.ask(asker, 0, Due.ADD, asker, 0, 0, 1);
            Due.due("flow(" + n + ")", x.flow(n), n);
            Due.due("count(3)", x.count(3), n);
            Due.due("count(2)", x.count(2), n < 3 ? 3 : 6 - n);
            for (int asker = 0; asker < 3; asker++) {
                Due.due("done", x.times(asker), asker < n ? 1 : 0);
                Due.due("ANSWERED", x.told(asker, 5), asker + 3 < n ? Due.IS_ANSWERED : Due.IS_OPEN);
            }
        }
        OnceOnly x = Due.withLetters(120);
        Due.due("199", x.flow(199), 199);
        Due.due("left", x.count(2), 41);
        Due.due("1", x.flow(1), 1);
        Due.due("left", x.count(2), 40);
        Due.due("40 of 200", x.flow(200), 40);
    }

    private static void flowsUntilNoneIsThere() {
        Due.sentence("or until none is there: how many");
        OnceOnly x = new OnceOnly(1);
        Due.due("of none", x.flow(200), 0);
        x.ask(0, 0, Due.FAR, 0, 0, 1, 0);
        Due.due("a FAR, its own, two ANSWERS", x.flow(200), 4);
        Due.due("of none", x.flow(1), 0);
        x.ask(0, 0, Due.READ, 0, 0, 0, 0);
        x.fall(6);
        Due.due("to one that is down", x.flow(2), 1);
        Due.due("count(3)", x.count(3), 5);
        x.rise(6);
        x.again(2);
        Due.due("2 of 2", x.flow(2), 2);
        Due.due("none is there", x.count(2), 0);
        Due.due("none fell", x.count(5), 1);
    }

    private static void fallsOfAll() {
        Due.sentence("An ASKER (NAMES 0 .. 5), a SERVER (6 .. 9) falls: 1. BAD; STATE: it is not up");
        for (int name = 0; name < 10; name++) {
            OnceOnly x = new OnceOnly(1);
            Due.due("fall", x.fall(name), 1);
            Due.due("fall", x.fall(name), Due.STATE);
            Due.due("count(5)", x.count(5), 1);
            for (int other = 0; other < 10; other++) {
                if (other != name) Due.due("another is up", x.rise(other), Due.STATE);
            }
            for (int asker = 0; asker < 6; asker++) {
                Due.due("ask", x.ask(asker, 0, 0, 0, 0, 0, 0) == Due.STATE ? 1 : 0, asker == name ? 1 : 0);
            }
            for (int server = 0; server < 4; server++) {
                Due.due("leave", x.leave(server, 0), server + 6 == name ? Due.STATE : 0);
            }
        }
    }

    private static void risesOfAll() {
        Due.sentence("It rises: its LIFE. BAD; STATE: it is up");
        for (int name = 0; name < 10; name++) {
            OnceOnly x = new OnceOnly(1);
            for (int life = 2; life < 6; life++) {
                Due.due("up", x.rise(name), Due.STATE);
                x.fall(name);
                Due.due("the LIFE, down", x.name(name, 1), name < 6 ? life - 1 : 1);
                Due.due("rise", x.rise(name), name < 6 ? life : 1);
                Due.name(x, name, 1, name < 6 ? life : 1, 1);
            }
            for (int other = 0; other < 10; other++) {
                if (other != name) Due.name(x, other, 1, 1, 1);
            }
        }
    }

    private static void keptOfSomeNames() {
        Due.sentence("What a SERVER has of a NAME: 0 the LIFE, 1 LOW, 2 how many RECORDS");
        OnceOnly x = new OnceOnly(16);
        for (int i = 0; i < 16; i++) x.ask(5, 3, Due.FAR, 5, 5, 0, 0);
        x.flow(200);
        Due.kept(x, 3, 5, 1, 1, 16);
        Due.kept(x, 0, 9, 1, 1, 16);
        Due.due("count(6)", x.count(6), 32);
        x.ask(5, 3, Due.FAR, 5, 5, 0, 0);
        x.flow(200);
        Due.kept(x, 3, 5, 1, 17, 1);
        Due.kept(x, 0, 9, 1, 17, 1);
        Due.due("count(6)", x.count(6), 2);
        Due.kept(x, 0, 5, 0, 1, 0);
        Due.kept(x, 3, 9, 0, 1, 0);
    }

    private static void recordsAtTheEdges() {
        Due.sentence("The RECORD of a NUMBER: 0 none, 1 DONE, 2 MIDST, 3 CANCELLED. BAD: SERVER, NAME");
        OnceOnly x = new OnceOnly(16);
        for (int i = 0; i < 16; i++) x.ask(0, 0, Due.ADD, 0, 0, 0, 1);
        x.flow(16);
        int[] none = {0, -1, -15, -16, 17, 18, 32, 33, 1 + (1 << 16), Integer.MAX_VALUE, Integer.MIN_VALUE,
            Integer.MIN_VALUE + 1, Integer.MIN_VALUE + 16};
        for (int number = 1; number < 17; number++) Due.due("record " + number, x.record(0, 0, number), Due.DONE);
        for (int number : none) Due.due("record " + number, x.record(0, 0, number), Due.NO_RECORD);
        for (int number : none) Due.due("BAD is first", x.record(4, 0, number), Due.BAD);
        for (int number : none) Due.due("BAD is first", x.record(0, 10, number), Due.BAD);
    }

    private static void leavesOfAll() {
        Due.sentence("the LIFE that it has of it is 1 more, LOW is 1, there are no RECORDS: how many there were");
        for (int server = 0; server < 4; server++) {
            for (int asker = 0; asker < 6; asker++) {
                OnceOnly x = new OnceOnly(16);
                for (int i = 0; i < 16; i++) x.ask(asker, server, Due.ADD, 0, 0, 0, 1);
                x.ask((asker + 1) % 6, server, Due.ADD, 0, 0, 0, 1);
                x.flow(200);
                Due.due("leave", x.leave(server, asker), 16);
                Due.kept(x, server, asker, 2, 1, 0);
                Due.kept(x, server, (asker + 1) % 6, 1, 1, 1);
                Due.due("leave again", x.leave(server, asker), 0);
                Due.kept(x, server, asker, 3, 1, 0);
                Due.due("of one that never asked", x.leave(server, (asker + 2) % 6), 0);
                Due.kept(x, server, (asker + 2) % 6, 1, 1, 0);
                Due.due("of one that is down", x.fall(asker) + x.leave(server, asker), 1);
                Due.due("the ACCOUNT stays", x.account(server, 0), 17);
                Due.due("the ASKER's LIFE stays", x.name(asker, 1), 1);
            }
        }
    }

    /** For each w, a FAR of each NUMBER of it: MIDST wherever it stands. */
    private static void leaveOfMidst() {
        Due.sentence("STATE: the SERVER is not up, or a RECORD of that ASKER is MIDST");
        for (int w = 1; w <= 16; w++) {
            for (int number = 1; number <= w; number += 3) {
                OnceOnly x = new OnceOnly(w);
                for (int i = 1; i <= w; i++) x.ask(2, 1, i == number ? Due.FAR : Due.ADD, 0, 0, 3, 0);
                x.flow(w);
                Due.due("MIDST", x.leave(1, 2), Due.STATE);
                Due.kept(x, 1, 2, 1, 1, w);
                Due.due("of another ASKER", x.leave(1, 3), 0);
                Due.due("of another SERVER", x.leave(3, 2), 0);
                x.flow(200);
                Due.due("DONE", x.leave(1, 2), w);
            }
        }
    }

    private static void timesIsOneAtMost() {
        Due.sentence("How often what an ASK asks for was done: 1, 0 (also of READ, CANCEL, and what was NOT LET)");
        int[][] kinds = {{Due.READ, 0, 0}, {Due.ADD, 5, 1}, {Due.ADD, 0, 1}, {Due.ADD, -101, 0}, {Due.MOVE, 5, 1},
            {Due.MOVE, 0, 1}, {Due.MOVE, 101, 0}, {Due.FAR, 5, 1}, {Due.FAR, 0, 1}, {Due.FAR, 101, 0}, {Due.CANCEL, 5, 0}};
        for (int[] kind : kinds) {
            OnceOnly x = Due.withMoney(8, 0, 100);
            x.ask(0, 0, kind[0], 0, 1, 1, kind[1]);
            for (int i = 0; i < 20; i++) x.twice(0);
            Due.due("ahead", x.times(1), 0);
            for (int i = 0; i < 10; i++) {
                x.deliver(0, 3);
                Due.due("kind " + kind[0] + ", amount " + kind[1], x.times(1), kind[2]);
            }
            x.flow(200);
            Due.due("kind " + kind[0] + ", amount " + kind[1], x.times(1), kind[2]);
            boolean far = kind[0] == Due.FAR && kind[2] == 1;
            Due.due("its own", x.times(2), far ? 1 : Due.BAD);
        }
    }

    private static void sums(OnceOnly x, long accounts, long underWay, long adds) {
        Due.due("audit(0)", x.audit(0), accounts);
        Due.due("audit(1)", x.audit(1), underWay);
        Due.due("audit(2)", x.audit(2), adds);
    }

    private static void sums() {
        Due.sentence("0 the sum of all ACCOUNTS, 1 what is under way between SERVERS, 2 the sum of AMOUNTS of ADDS of ASKERS");
        OnceOnly x = new OnceOnly(16);
        sums(x, 0, 0, 0);
        for (int i = 0; i < 24; i++) x.ask(i % 6, i / 6, Due.ADD, i % 6, 0, 0, 1000000);
        sums(x, 0, 0, 0);
        x.flow(24);
        sums(x, 24000000, 0, 24000000);
        for (int i = 0; i < 6; i++) x.ask(i, i % 4, Due.FAR, i, 5 - i, 3 - i % 4, 1000000);
        x.flow(200);
        sums(x, 24000000, 0, 24000000);
        for (int i = 0; i < 6; i++) x.ask(i, i % 4, Due.FAR, 5 - i, 5, i % 4, 999999);
        x.flow(3);
        sums(x, 21000003, 2999997, 24000000);
        x.flow(3);
        sums(x, 18000006, 5999994, 24000000);
        x.flow(1);
        sums(x, 19000005, 4999995, 24000000);
        x.fall(6);
        x.fall(7);
        x.fall(8);
        x.fall(9);
        x.flow(200);
        sums(x, 19000005, 4999995, 24000000);
        for (int name = 6; name < 10; name++) x.rise(name);
        for (int ask = 0; ask < x.count(0); ask++) x.again(ask);
        x.flow(200);
        sums(x, 24000000, 0, 24000000);
        x.ask(0, 0, Due.ADD, 1, 0, 0, -1);
        x.flow(200);
        sums(x, 23999999, 0, 23999999);
    }

    private static void sumsOfWhatIsNoMoney() {
        Due.sentence("(AMOUNTS of FARS that were done, whose own ASK's ADD was not), 2 .. of ADDS of ASKERS that were done");
        OnceOnly x = Due.withMoney(8, 0, 10);
        Due.asks(x, Due.READ, 0, 0, 1000, 10);
        sums(x, 10, 0, 10);
        Due.asks(x, Due.ADD, 0, 0, -11, -1);
        sums(x, 10, 0, 10);
        Due.asks(x, Due.MOVE, 0, 1, 5, 5);
        Due.asks(x, Due.MOVE, 0, 0, 500, 5);
        sums(x, 10, 0, 10);
        Due.asks(x, Due.FAR, 0, 1, 6, -1);
        sums(x, 10, 0, 10);
        Due.asks(x, Due.FAR, 0, 1, 5, 0);
        sums(x, 10, 0, 10);
        Due.asks(x, Due.CANCEL, 0, 0, 500, 3);
        Due.asks(x, Due.ADD, 1, 0, -5, 0);
        sums(x, 5, 0, 5);
        x.ask(0, 1, Due.FAR, 1, 0, 0, 5);
        x.deliver(0, 1);
        sums(x, 5, 0, 5);
        x.rise(7);
        x.again(x.count(0) - 1);
        x.deliver(0, 2);
        sums(x, 0, 5, 5);
        x.rise(7);
        x.again(x.count(0) - 1);
        x.deliver(0, 1);
        sums(x, 0, 5, 5);
        x.rise(6);
        x.again(x.count(0) - 1);
        x.deliver(0, 2);
        sums(x, 5, 0, 5);
    }

    private static long seal(long... values) {
        long h = 17;
        for (long v : values) h = 31 * h + v;
        return h;
    }

    private static void witnesses() {
        Due.sentence("h = 17, then h = 31 h + v for NAME, LIFE, NUMBER, SERVER, KIND, ANSWER");
        OnceOnly x = new OnceOnly(16);
        for (int asker = 0; asker < 6; asker++) {
            for (int server = 0; server < 4; server++) {
                int ask = x.ask(asker, server, Due.ADD, asker, 0, 0, 1000000 - server);
                Due.due("OPEN", x.witness(ask), Due.STATE);
                x.flow(200);
                long due = seal(asker, 1, server + 1, server, 1, 1000000 - server);
                Due.due("witness", x.witness(ask), due);
                Due.due("check", x.check(ask, due), 1);
            }
        }
        x = new OnceOnly(16);
        for (int i = 0; i < 3; i++) {
            x.fall(0);
            x.rise(0);
        }
        Due.due("of 0", x.witness(Due.asks(x, Due.READ, 0, 0, 0, 0)), seal(0, 4, 1, 0, 0, 0));
        Due.due("of -1", x.witness(Due.asks(x, Due.MOVE, 0, 1, 1, -1)), seal(0, 4, 2, 0, 2, -1));
        Due.due("of CANCEL", x.witness(Due.asks(x, Due.CANCEL, 0, 0, 5, 1)), seal(0, 4, 3, 0, 4, 1));
        Due.due("of FAR", x.witness(Due.asks(x, Due.FAR, 0, 0, 0, 0)), seal(0, 4, 4, 0, 3, 0));
        Due.due("of -2", x.witness(Due.asks(x, Due.FAR, 0, 0, 0, -2)), seal(0, 4, 5, 0, 3, -2));
        Due.due("it is more than an int", x.witness(0) > Integer.MAX_VALUE ? 1 : 0, 1);
        Due.due("BAD as a long", x.witness(-1), -2000001L);
        x.leave(0, 0);
        int over = x.ask(0, 0, Due.READ, 0, 0, 0, 0);
        x.flow(200);
        Due.due("OVER", x.told(over, 5), Due.IS_OVER);
        Due.due("STATE as a long", x.witness(over), -2000002L);
    }

    private static void witnessOfOwnAsk() {
        Due.sentence("The WITNESS of an ASK that is ANSWERED");
        OnceOnly x = Due.withFar(3);
        x.flow(1);
        Due.due("OPEN", x.witness(2), Due.STATE);
        x.flow(1);
        Due.due("its ANSWER is under way", x.witness(2), Due.STATE);
        x.flow(1);
        Due.due("ANSWERED", x.witness(2), seal(6, 1, 1, 3, 1, 30));
        Due.due("the FAR is not yet", x.witness(1), Due.STATE);
        x.flow(1);
        Due.due("the FAR", x.witness(1), seal(0, 1, 2, 0, 3, 70));
        Due.due("it stays, whatever a has", Due.asks(x, Due.ADD, 0, 0, 5, 75), 3);
        Due.due("the FAR", x.witness(1), seal(0, 1, 2, 0, 3, 70));
    }

    private static void checks() {
        Due.sentence("Whether a WITNESS is that of an ASK, which is ANSWERED: 1, 0. BAD");
        OnceOnly x = Due.withMoney(4, 0, 100);
        long h = seal(0, 1, 1, 0, 1, 100);
        long[] others = {h - 1, h + 1, -h, ~h, (int) h, h & 0xffffffffL, h + (1L << 32), h ^ Long.MIN_VALUE, 0, 17,
            Long.MIN_VALUE, Long.MAX_VALUE, Due.STATE, Due.BAD};
        Due.due("check", x.check(0, h), 1);
        for (long other : others) Due.due("check " + other, x.check(0, other), 0);
        Due.due("no ASK", x.check(1, h), Due.BAD);
        x.ask(0, 0, Due.READ, 0, 0, 0, 0);
        long later = seal(0, 1, 2, 0, 0, 100);
        for (long other : others) Due.due("of an OPEN one", x.check(1, other), 0);
        Due.due("its own, but OPEN", x.check(1, later), 0);
        Due.due("of what it would be without an ANSWER", x.check(1, seal(0, 1, 2, 0, 0, 0)), 0);
        x.flow(1);
        Due.due("its own, but under way", x.check(1, later), 0);
        x.flow(1);
        Due.due("its own", x.check(1, later), 1);
        Due.due("another's", x.check(1, h), 0);
        Due.due("another's", x.check(0, later), 0);
        x.ask(0, 0, Due.READ, 0, 0, 0, 0);
        x.fall(0);
        x.rise(0);
        for (long other : others) Due.due("of one that is OVER", x.check(2, other), 0);
        Due.due("of one that is OVER", x.check(2, seal(0, 1, 3, 0, 0, 0)), 0);
        Due.due("of one that is OVER", x.check(2, seal(0, 1, 3, 0, 0, 100)), 0);
    }

    private static void count(OnceOnly x, int... due) {
        for (int what = 0; what < due.length; what++) Due.due("count(" + what + ")", x.count(what), due[what]);
    }

    private static void counts() {
        Due.sentence("3 those that came (by deliver(), flow()), 4 those that were lost (by lose(), or without room), 5 falls");
        OnceOnly x = new OnceOnly(4);
        count(x, 0, 0, 0, 0, 0, 0, 0, 4);
        x.ask(0, 0, Due.ADD, 0, 0, 0, 1);
        count(x, 1, 1, 1, 0, 0, 0, 0, 4);
        x.twice(0);
        x.bend(1);
        count(x, 1, 1, 2, 0, 0, 0, 0, 4);
        x.deliver(1, 3);
        count(x, 1, 1, 1, 1, 0, 0, 0, 4);
        x.flow(1);
        count(x, 1, 1, 1, 2, 0, 0, 1, 4);
        x.lose(0);
        count(x, 1, 1, 0, 2, 1, 0, 1, 4);
        x.again(0);
        x.deliver(0, 2);
        count(x, 1, 1, 0, 3, 1, 1, 1, 4);
        x.fall(1);
        x.again(0);
        x.flow(200);
        count(x, 1, 1, 0, 4, 1, 2, 1, 4);
        x.rise(6);
        x.again(0);
        x.flow(200);
        count(x, 1, 0, 0, 6, 1, 2, 1, 4);
        x.ask(0, 1, Due.FAR, 0, 0, 2, 0);
        x.flow(1);
        count(x, 3, 2, 1, 7, 1, 2, 2, 4);
        x.flow(1);
        count(x, 3, 2, 1, 8, 1, 2, 3, 4);
        x.fall(0);
        x.rise(0);
        count(x, 3, 1, 1, 8, 1, 3, 3, 4);
        Due.due("leave", x.leave(0, 0), 1);
        count(x, 3, 1, 1, 8, 1, 3, 2, 4);
    }

    private static void countsAtTheMost() {
        Due.sentence("How many: 0 ASKS, 1 OPEN ones, 2 LETTERS under way, .. 4 those that were lost");
        OnceOnly x = new OnceOnly(16);
        for (int i = 0; i < 96; i++) x.ask(i / 16, 0, Due.FAR, 0, 0, 1, 0);
        count(x, 96, 96, 96, 0, 0, 0, 0, 16);
        x.flow(96);
        // 16 are in the WINDOW of SERVER 0; the others are NOT LET, and answered.
        count(x, 112, 112, 96, 96, 0, 0, 96, 16);
        x.flow(200);
        count(x, 112, 0, 0, 224, 0, 0, 112, 16);
        for (int i = 0; i < 188; i++) {
            if (i % 96 == 0) x.flow(200);
            x.ask(i / 16 % 6, 2, Due.ADD, 0, 0, 0, 0);
        }
        count(x, 300, 92, 92, 416, 0, 0, 208, 16);
        Due.due("one more", x.ask(5, 2, Due.ADD, 0, 0, 0, 0), Due.FULL);
        for (int i = 0; i < 28; i++) x.twice(0);
        count(x, 300, 92, 120, 416, 0, 0, 208, 16);
        for (int i = 0; i < 120; i++) x.lose(0);
        count(x, 300, 92, 0, 416, 120, 0, 208, 16);
    }
}
