/** The sentences of the Terms, 1 ENDS, that name a boundary, one after another. */
public final class EndsEdgesTest {
    private EndsEdgesTest() {
    }

    public static void main(String[] args) {
        numbersFromOn();
        endsAreUp();
        accountsOfServers();
        mostOfAnAccount();
        namesOfServers();
        livesOfServers();
        livesOfAskers();
        threeHundredAsks();
        threeHundredOver();
        ownAsksAreAmongThem();
        lowestOfAName();
        lowestPassesWhatIsOver();
        lowestOfAServer();
        reads();
        adds();
        addsOfAllAskers();
        moves();
        movesWithinOne();
        movesFillB();
        fars();
        cancelIsOfItsNameAndLife();
        farsWithoutAsks();
        farsWithoutWindow();
        notLetDoesNothing();
        Due.end("EndsEdgesTest");
    }

    private static void numbersFromOn() {
        Due.sentence("Numbers go from 0 on, but NUMBERS of asks, LIVES (from 1 on)");
        OnceOnly x = new OnceOnly(4);
        Due.name(x, 0, 1, 1, 1);
        Due.due("the first ASK", x.ask(0, 0, Due.ADD, 0, 0, 0, 1), 0);
        Due.due("the first LETTER", x.letter(0, 0), 0);
        Due.due("the first LIFE", x.told(0, 1), 1);
        Due.due("the first NUMBER", x.told(0, 2), 1);
        Due.due("the second ASK", x.ask(0, 0, Due.ADD, 0, 0, 0, 1), 1);
        Due.due("the second LETTER", x.letter(1, 0), 1);
        Due.due("the second NUMBER", x.told(1, 2), 2);
        Due.due("another's first ASK", x.ask(1, 0, Due.ADD, 0, 0, 0, 1), 2);
        Due.due("another's first NUMBER", x.told(2, 2), 1);
        x.flow(3);
        int[] records = {0, 1, 1, 0};
        for (int number = 0; number < 4; number++) {
            Due.due("the RECORD of " + number, x.record(0, 0, number), records[number]);
        }
    }

    private static void endsAreUp() {
        Due.sentence("ASKERS 0 .. 5, SERVERS 0 .. 3; all are up at first");
        for (int asker = 0; asker < 6; asker++) {
            for (int server = 0; server < 4; server++) {
                OnceOnly x = new OnceOnly(1);
                Due.due("ask", x.ask(asker, server, Due.ADD, asker, 0, 0, 9), 0);
                Due.due("there and back", x.flow(200), 2);
                Due.due("answer", x.answer(0), 9);
                Due.due("told(0, 0)", x.told(0, 0), asker);
                Due.due("told(0, 3)", x.told(0, 3), server);
                Due.kept(x, server, asker, 1, 1, 1);
            }
        }
        for (int name = 0; name < 10; name++) {
            Due.due("rise of one that is up", new OnceOnly(1).rise(name), Due.STATE);
            Due.due("fall of one that is up", new OnceOnly(1).fall(name), 1);
        }
    }

    private static void accountsOfServers() {
        Due.sentence("A SERVER has ACCOUNTS 0 .. 5, whole numbers of 64 bits, 0 at first");
        for (int server = 0; server < 4; server++) {
            for (int a = 0; a < 6; a++) {
                OnceOnly x = new OnceOnly(1);
                Due.due("at first", x.account(server, a), 0);
                x.ask(0, server, Due.ADD, a, 0, 0, 1);
                x.flow(200);
                for (int i = 0; i < 24; i++) {
                    Due.due("account", x.account(i / 6, i % 6), i == server * 6 + a ? 1 : 0);
                }
            }
        }
    }

    /** 300 ASKS of 1000000 are the most that can come together: far below 10^12, so all are let. */
    private static void mostOfAnAccount() {
        Due.sentence("that would make an ACCOUNT less than 0 or more than 10^12");
        OnceOnly x = new OnceOnly(16);
        for (int i = 0; i < 300; i++) {
            if (x.ask(0, 2, Due.ADD, 5, 0, 0, 1000000) != i) Due.due("ask " + i, -1, i);
            if (i % 16 == 15) x.flow(32);
        }
        x.flow(200);
        Due.due("the last ANSWER", x.answer(299), 300000000L);
        Due.due("it was done", x.times(299), 1);
        Due.due("account", x.account(2, 5), 300000000L);
        Due.due("audit(0)", x.audit(0), 300000000L);
        Due.due("audit(2)", x.audit(2), 300000000L);
    }

    private static void namesOfServers() {
        Due.sentence("NAMES: 0 .. 5 of ASKERS, 6 .. 9 of SERVERS (6 more than their numbers), which ask, too");
        for (int server = 0; server < 4; server++) {
            for (int t = 0; t < 4; t++) {
                OnceOnly x = Due.withMoney(2, server, 10);
                x.ask(5, server, Due.FAR, 0, 5, t, 3);
                Due.due("the FAR comes", x.deliver(0, 3), 1);
                Due.due("the NAME of its own ASK", x.told(2, 0), 6 + server);
                Due.due("of SERVER t", x.told(2, 3), t);
                Due.name(x, 6 + server, 1, 1, 2);
                Due.due("t does it", x.deliver(0, 3), 1);
                Due.kept(x, t, 6 + server, 1, 1, 1);
                Due.due("b of t", x.account(t, 5), 3);
                Due.due("the ANSWERS", x.flow(200), 2);
                Due.name(x, 6 + server, 2, 1, 2);
                Due.due("what a has then", x.answer(1), 7);
            }
        }
    }

    private static void livesOfServers() {
        Due.sentence("A NAME has a LIFE, 1 at first (of a SERVER 1 for ever), and asks by NUMBERS 1, 2, .. in it");
        OnceOnly x = Due.withMoney(2, 0, 100);
        for (int number = 1; number < 5; number++) {
            int far = x.ask(0, 0, Due.FAR, 0, 0, 1, 10);
            x.flow(200);
            int own = x.told(far, 7);
            Due.due("its LIFE", x.told(own, 1), 1);
            Due.due("its NUMBER", x.told(own, 2), number);
            x.fall(6);
            Due.due("rise", x.rise(6), 1);
            Due.name(x, 6, number + 1, 1, number + 1);
        }
        Due.kept(x, 1, 6, 1, 4, 1);
    }

    private static void livesOfAskers() {
        Due.sentence("A NAME has a LIFE, 1 at first (of a SERVER 1 for ever), and asks by NUMBERS 1, 2, .. in it");
        OnceOnly x = new OnceOnly(3);
        int made = 0;
        for (int life = 1; life < 5; life++) {
            for (int number = 1; number < 4; number++) {
                Due.due("ask", x.ask(3, 0, Due.ADD, 0, 0, 0, 1), made);
                Due.due("its LIFE", x.told(made, 1), life);
                Due.due("its NUMBER", x.told(made, 2), number);
                made++;
            }
            x.fall(3);
            Due.due("rise", x.rise(3), life + 1);
            Due.name(x, 3, 1, life + 1, 1);
            Due.due("its LIFE is then", x.told(made - 1, 1), life);
            Due.due("another's", x.name(2, 1), 1);
        }
    }

    private static void threeHundredAsks() {
        Due.sentence("ASKS, 300 at most in all");
        OnceOnly x = Due.withAsks(299);
        Due.due("the last one", x.ask(4, 0, Due.ADD, 0, 0, 0, 1), 299);
        for (int asker = 0; asker < 6; asker++) {
            Due.due("one more", x.ask(asker, 0, Due.ADD, 0, 0, 0, 1), Due.FULL);
        }
        x.flow(200);
        Due.due("none is OPEN", x.count(1), 0);
        Due.due("one more", x.ask(4, 0, Due.ADD, 0, 0, 0, 1), Due.FULL);
        Due.due("count(0)", x.count(0), 300);
        Due.due("the last one was done", x.answer(299), 1);
    }

    private static void threeHundredOver() {
        Due.sentence("ASKS, 300 at most in all");
        OnceOnly x = new OnceOnly(16);
        for (int i = 0; i < 300; i++) {
            int asker = i / 16 % 6;
            if (x.ask(asker, 0, Due.READ, 0, 0, 0, 0) != i) Due.due("ask " + i, -1, i);
            if (i % 16 == 15) {
                x.fall(asker);
                x.rise(asker);
            }
        }
        x.fall(0);
        Due.due("the LIFE of ASKER 0", x.rise(0), 5);
        Due.due("none is OPEN", x.count(1), 0);
        Due.due("the last is OVER", x.told(299, 5), Due.IS_OVER);
        Due.due("one more", x.ask(0, 0, Due.READ, 0, 0, 0, 0), Due.FULL);
        Due.due("LETTERS", x.count(2), 120);
        Due.due("those without room", x.count(4), 180);
    }

    private static void ownAsksAreAmongThem() {
        Due.sentence("ASKS, 300 at most in all");
        OnceOnly x = Due.withAsks(298);
        Due.due("a FAR", x.ask(5, 0, Due.FAR, 0, 0, 1, 0), 298);
        Due.due("room for one", x.count(0), 299);
        x.flow(1);
        Due.due("its own", x.told(298, 7), 299);
        Due.due("one more", x.ask(0, 0, Due.READ, 0, 0, 0, 0), Due.FULL);
        x.flow(200);
        Due.due("the FAR is through", x.answer(298), 0);
        Due.due("count(0)", x.count(0), 300);
    }

    private static void lowestOfAName() {
        Due.sentence("LOWEST of a NAME: the least NUMBER of its LIFE of an ASK that is OPEN, else the next one");
        OnceOnly x = new OnceOnly(4);
        Due.name(x, 2, 1, 1, 1);
        for (int number = 1; number < 5; number++) {
            x.ask(2, 0, Due.ADD, 0, 0, 0, 1);
            Due.name(x, 2, 1, 1, number + 1);
        }
        // Of LETTERS of ASKS 0 .. 3: ASK 1 there and back, then 3, 0, 2.
        int[] comes = {1, 2, 0, 0};
        int[] lowest = {1, 1, 3, 5};
        for (int i = 0; i < 4; i++) {
            x.deliver(comes[i], 3);
            x.deliver(x.count(2) - 1, 3);
            Due.name(x, 2, lowest[i], 1, 5);
        }
        x.ask(2, 0, Due.ADD, 0, 0, 0, 1);
        Due.name(x, 2, 5, 1, 6);
        x.fall(2);
        Due.name(x, 2, 5, 1, 6);
        x.rise(2);
        Due.name(x, 2, 1, 2, 1);
        x.flow(2);
        Due.name(x, 2, 1, 2, 1);
        Due.name(x, 1, 1, 1, 1);
    }

    private static void lowestPassesWhatIsOver() {
        Due.sentence("LOWEST of a NAME: the least NUMBER of its LIFE of an ASK that is OPEN, else the next one");
        OnceOnly x = new OnceOnly(4);
        x.leave(0, 0);
        x.leave(0, 0);
        x.ask(0, 0, Due.ADD, 0, 0, 0, 1);
        x.ask(0, 1, Due.ADD, 0, 0, 0, 1);
        x.flow(3);
        Due.due("OVER", x.told(0, 5), Due.IS_OVER);
        Due.due("still OPEN", x.told(1, 5), Due.IS_OPEN);
        Due.name(x, 0, 2, 1, 3);
        x.flow(1);
        Due.name(x, 0, 3, 1, 3);
    }

    private static void lowestOfAServer() {
        Due.sentence("LOWEST of a NAME: the least NUMBER of its LIFE of an ASK that is OPEN, else the next one");
        OnceOnly x = new OnceOnly(3);
        for (int i = 0; i < 3; i++) x.ask(0, 2, Due.FAR, 0, 0, 3, 0);
        for (int number = 1; number < 4; number++) {
            Due.due("a FAR comes", x.deliver(0, 3), 1);
            Due.name(x, 8, 1, 1, number + 1);
        }
        Due.due("the second own ASK", x.deliver(1, 3), 1);
        Due.due("its ANSWER", x.deliver(2, 3), 1);
        Due.name(x, 8, 1, 1, 4);
        Due.due("the first own ASK", x.deliver(0, 3), 1);
        Due.due("its ANSWER", x.deliver(2, 3), 1);
        Due.name(x, 8, 3, 1, 4);
        x.flow(200);
        Due.name(x, 8, 4, 1, 4);
    }

    private static void reads() {
        Due.sentence("0 READ: the ANSWER is what a has");
        OnceOnly x = new OnceOnly(16);
        Due.asks(x, Due.READ, 0, 5, 1000000, 0);
        Due.asks(x, Due.READ, 5, 0, -1000000, 0);
        Due.asks(x, Due.ADD, 5, 0, 3, 3);
        Due.asks(x, Due.READ, 5, 0, -1000000, 3);
        Due.asks(x, Due.READ, 4, 5, 1, 0);
        Due.asks(x, Due.ADD, 5, 0, -3, 0);
        Due.asks(x, Due.READ, 5, 5, 0, 0);
        Due.due("account", x.account(0, 5), 0);
    }

    private static void adds() {
        Due.sentence("1 ADD: a becomes AMOUNT more: what it has then");
        OnceOnly x = new OnceOnly(16);
        Due.asks(x, Due.ADD, 0, 1, 0, 0);
        Due.asks(x, Due.ADD, 0, 1, -1, -1);
        Due.asks(x, Due.ADD, 0, 1, 1, 1);
        Due.asks(x, Due.ADD, 0, 1, -2, -1);
        Due.asks(x, Due.ADD, 0, 1, -1, 0);
        Due.asks(x, Due.ADD, 0, 1, 999999, 999999);
        Due.asks(x, Due.ADD, 0, 1, -1000000, -1);
        Due.asks(x, Due.ADD, 0, 1, 1, 1000000);
        Due.asks(x, Due.ADD, 0, 1, 1000000, 2000000);
        Due.asks(x, Due.ADD, 0, 1, -1000000, 1000000);
        Due.asks(x, Due.ADD, 0, 1, -1000000, 0);
        Due.asks(x, Due.ADD, 0, 1, -1000000, -1);
        Due.due("b is not in it", x.account(0, 1), 0);
        Due.due("nor is t", x.account(1, 0), 0);
    }

    private static void addsOfAllAskers() {
        Due.sentence("An ADD of an ASKER .. that would make an ACCOUNT less than 0");
        for (int asker = 0; asker < 6; asker++) {
            for (int server = 0; server < 4; server++) {
                OnceOnly x = Due.withMoney(4, server, 10);
                int[] amounts = {-11, -10, -1, 0};
                for (int amount : amounts) x.ask(asker, server, Due.ADD, 0, 0, 0, amount);
                x.flow(200);
                long[] answers = {-1, 0, -1, 0};
                for (int i = 0; i < 4; i++) Due.due("ADD of " + amounts[i], x.answer(1 + i), answers[i]);
                Due.due("account", x.account(server, 0), 0);
            }
        }
    }

    private static void moves() {
        Due.sentence("2 MOVE: a AMOUNT less, b AMOUNT more: what a has then");
        OnceOnly x = new OnceOnly(16);
        Due.asks(x, Due.MOVE, 0, 1, 0, 0);
        Due.asks(x, Due.MOVE, 0, 1, 1, -1);
        Due.asks(x, Due.ADD, 0, 0, 10, 10);
        Due.asks(x, Due.MOVE, 0, 5, 11, -1);
        Due.asks(x, Due.MOVE, 0, 5, 9, 1);
        Due.asks(x, Due.MOVE, 0, 5, 2, -1);
        Due.asks(x, Due.MOVE, 0, 5, 1, 0);
        Due.asks(x, Due.MOVE, 0, 5, 1000000, -1);
        Due.asks(x, Due.MOVE, 5, 0, 10, 0);
        Due.due("a", x.account(0, 5), 0);
        Due.due("b", x.account(0, 0), 10);
        Due.due("nothing goes to t", x.account(1, 5), 0);
    }

    private static void movesWithinOne() {
        Due.sentence("where a and b are one nothing is more or less, and it is let");
        OnceOnly x = new OnceOnly(16);
        int[] amounts = {0, 1, 1000000};
        for (int a = 0; a < 6; a += 5) {
            for (int amount : amounts) {
                Due.due("of nothing, done", x.times(Due.asks(x, Due.MOVE, a, a, amount, 0)), 1);
            }
            Due.asks(x, Due.ADD, a, a, 10, 10);
            for (int amount : new int[] {9, 10, 11, 1000000}) {
                Due.due("of 10, done", x.times(Due.asks(x, Due.MOVE, a, a, amount, 10)), 1);
            }
            Due.due("account", x.account(0, a), 10);
        }
    }

    /** b has the most that can come together in 300 ASKS: still below 10^12, so all are let. */
    private static void movesFillB() {
        Due.sentence("of FAR a, of MOVE a or b, from what both have ahead");
        OnceOnly x = new OnceOnly(16);
        for (int i = 0; i < 148; i++) {
            x.ask(0, 0, Due.ADD, 0, 0, 0, 1000000);
            x.ask(0, 0, Due.MOVE, 0, 1, 0, 1000000);
            if (i % 8 == 7) x.flow(32);
        }
        x.flow(200);
        Due.due("b", x.account(0, 1), 148000000);
        Due.asks(x, Due.MOVE, 0, 1, 1, -1);
        Due.asks(x, Due.MOVE, 1, 0, 1000000, 147000000);
        Due.asks(x, Due.MOVE, 0, 2, 1000000, 0);
        Due.asks(x, Due.MOVE, 0, 2, 0, 0);
    }

    private static void fars() {
        Due.sentence("3 FAR: a AMOUNT less, and the SERVER, as a NAME, asks SERVER t for an ADD of AMOUNT to b");
        OnceOnly x = new OnceOnly(16);
        Due.asks(x, Due.FAR, 0, 1, 1, -1);
        Due.asks(x, Due.FAR, 0, 1, 0, 0);
        Due.asks(x, Due.ADD, 0, 0, 10, 10);
        Due.asks(x, Due.FAR, 0, 5, 11, -1);
        Due.asks(x, Due.FAR, 0, 5, 1000000, -1);
        Due.asks(x, Due.FAR, 0, 5, 9, 1);
        Due.asks(x, Due.FAR, 0, 0, 1, 0);
        Due.asks(x, Due.FAR, 0, 0, 1, -1);
        Due.due("b", x.account(1, 5), 9);
        Due.due("b that is a of another SERVER", x.account(1, 0), 1);
        Due.due("b of its own SERVER", x.account(0, 5), 0);
        Due.due("own ASKS", x.name(6, 2), 4);
    }

    private static void cancelIsOfItsNameAndLife() {
        Due.sentence("4 CANCEL: of the ASK of that NAME and LIFE whose NUMBER is AMOUNT");
        OnceOnly x = new OnceOnly(4);
        x.ask(1, 0, Due.ADD, 0, 0, 0, 5);
        x.ask(0, 0, Due.READ, 0, 0, 0, 0);
        x.ask(0, 0, Due.CANCEL, 0, 0, 0, 1);
        Due.due("of ASKER 0", x.deliver(2, 3), 1);
        Due.due("its NUMBER 1", x.record(0, 0, 1), Due.CANCELLED);
        Due.due("not another's", x.record(0, 1, 1), Due.NO_RECORD);
        Due.due("not another SERVER's", x.record(1, 0, 1), Due.NO_RECORD);
        x.flow(200);
        Due.due("the other's ADD is done", x.answer(0), 5);
        Due.due("the READ is not", x.answer(1), -2);
        x = new OnceOnly(4);
        x.ask(0, 0, Due.ADD, 0, 0, 0, 5);
        x.ask(0, 0, Due.CANCEL, 0, 0, 0, 3);
        x.flow(200);
        Due.due("NUMBER 3 is CANCELLED", x.record(0, 0, 3), Due.CANCELLED);
        x.fall(0);
        x.rise(0);
        for (int i = 0; i < 3; i++) x.ask(0, 0, Due.ADD, 0, 0, 0, 1);
        x.flow(200);
        Due.due("that of the next LIFE is not", x.answer(4), 8);
    }

    private static void farsWithoutAsks() {
        Due.sentence("a FAR whose own ASK would find no room among ASKS");
        for (int ahead = 297; ahead < 300; ahead++) {
            OnceOnly x = Due.withAsks(ahead);
            Due.due("the FAR", x.ask(5, 0, Due.FAR, 0, 0, 1, 0), ahead);
            x.flow(200);
            boolean room = ahead < 299;
            Due.due("its ANSWER", x.answer(ahead), room ? 0 : -1);
            Due.due("its own ASK", x.told(ahead, 7), room ? ahead + 1 : Due.NONE);
            Due.due("count(0)", x.count(0), room ? ahead + 2 : 300);
            Due.due("times", x.times(ahead), room ? 1 : 0);
            Due.due("the RECORD", x.record(0, 5, x.told(ahead, 2)), Due.DONE);
            Due.due("the next NUMBER of SERVER 0", x.name(6, 2), room ? 2 : 1);
        }
    }

    /** For each w: w FARS of SERVER 0 are let, one more is not, until the lowest own ASK is ANSWERED. */
    private static void farsWithoutWindow() {
        Due.sentence("a FAR whose own ASK would find no room among ASKS, or in its WINDOW");
        for (int w = 1; w <= 16; w++) {
            OnceOnly x = new OnceOnly(w);
            for (int i = 0; i < w; i++) x.ask(0, 0, Due.FAR, 0, 0, 1, 0);
            for (int i = 0; i < 3; i++) x.ask(1 + i, 0, Due.FAR, 0, 0, 1, 0);
            for (int i = 0; i < w; i++) Due.due("one with room", x.deliver(0, 3), 1);
            Due.name(x, 6, 1, 1, w + 1);
            Due.due("one without", x.deliver(0, 3), 1);
            Due.due(x, w + 2, w, 1, Due.NONE, 0, 0);
            Due.due("no own ASK", x.told(w, 7), Due.NONE);
            Due.due("it is DONE", x.record(0, 1, 1), Due.DONE);
            if (w > 1) {
                Due.due("the second own ASK", x.deliver(3, 3), 1);
                Due.due("is ANSWERED", x.deliver(x.count(2) - 1, 3), 1);
                Due.name(x, 6, 1, 1, w + 1);
            }
            Due.due("still one without", x.deliver(0, 3), 1);
            Due.due("no own ASK", x.told(w + 1, 7), Due.NONE);
            Due.due("the first own ASK", x.deliver(1, 3), 1);
            Due.due("is ANSWERED", x.deliver(x.count(2) - 1, 3), 1);
            Due.name(x, 6, w == 1 ? 2 : 3, 1, w + 1);
            Due.due("one with room again", x.deliver(0, 3), 1);
            Due.name(x, 6, w == 1 ? 2 : 3, 1, w + 2);
            x.flow(200);
            Due.due("NOT LET", x.answer(w), -1);
            Due.due("NOT LET", x.answer(w + 1), -1);
            Due.due("let", x.answer(w + 2), 0);
        }
    }

    private static void notLetDoesNothing() {
        Due.sentence("are NOT LET: the ANSWER is -1, nothing is done");
        int[][] asks = {{Due.ADD, 0, 0, -11}, {Due.MOVE, 0, 1, 11}, {Due.FAR, 0, 1, 11}};
        for (int[] q : asks) {
            OnceOnly x = Due.withMoney(4, 0, 10);
            x.ask(0, 0, q[0], q[1], q[2], 1, q[3]);
            x.twice(0);
            Due.due("it comes", x.deliver(0, 3), 1);
            Due.due("it has a RECORD", x.record(0, 0, 2), Due.DONE);
            Due.due("a", x.account(0, 0), 10);
            Due.due("b", x.account(0, 1), 0);
            Due.due("count(0)", x.count(0), 2);
            Due.due("times", x.times(1), 0);
            x.ask(1, 0, Due.ADD, 0, 0, 0, 100);
            x.deliver(2, 3);
            Due.due("there is room by now, but it is DONE", x.deliver(0, 3), 1);
            x.flow(200);
            Due.due("answer", x.answer(1), -1);
            Due.due("a", x.account(0, 0), 110);
            Due.due("audit(2)", x.audit(2), 110);
        }
    }
}
