/** Promises 1 to 6: a new object, ask, again, told, answer, name. */
public final class AskersTest {
    private AskersTest() {
    }

    public static void main(String[] args) {
        newObject();
        windowBinds();
        askIsMade();
        askIsBad();
        askOrderOfRefusals();
        askWithoutRoom();
        again();
        againOfServer();
        told();
        answer();
        name();
        Due.end("AskersTest");
    }

    private static void newObject() {
        Due.promise(1);
        int[][] windows = {{1, 1}, {2, 2}, {15, 15}, {16, 16}, {17, 16}, {0, 1}, {-1, 1},
            {Integer.MAX_VALUE, 16}, {Integer.MIN_VALUE, 1}};
        for (int[] pair : windows) Due.due("new, count(7)", new OnceOnly(pair[0]).count(7), pair[1]);
        OnceOnly x = new OnceOnly(3);
        for (int what = 0; what < 7; what++) Due.due("new, count(" + what + ")", x.count(what), 0);
        for (int name = 0; name < 10; name++) {
            Due.name(x, name, 1, 1, 1);
            for (int server = 0; server < 4; server++) Due.kept(x, server, name, 0, 1, 0);
            Due.due("rise of one that is up", x.rise(name), Due.STATE);
        }
        for (int server = 0; server < 4; server++) {
            for (int a = 0; a < 6; a++) Due.due("a new account", x.account(server, a), 0);
        }
    }

    private static void windowBinds() {
        Due.promise(1);
        for (int window = 1; window <= 16; window++) {
            OnceOnly x = new OnceOnly(window);
            for (int i = 0; i < window; i++) Due.due("ask in the WINDOW", x.ask(0, 0, Due.ADD, 0, 0, 0, 1), i);
            Due.due("ask past it", x.ask(0, 0, Due.ADD, 0, 0, 0, 1), Due.FULL);
            Due.due("another's ask", x.ask(1, 0, Due.ADD, 0, 0, 0, 1), window);
        }
    }

    private static void askIsMade() {
        Due.promise(2);
        OnceOnly x = new OnceOnly(4);
        Due.due("ask of the last", x.ask(5, 3, Due.MOVE, 5, 4, 3, 1000000), 0);
        Due.due("a second", x.ask(5, 0, Due.READ, 0, 0, 0, -1000000), 1);
        Due.due("of another", x.ask(0, 0, Due.CANCEL, 0, 0, 0, 1), 2);
        Due.due("of a SERVER that is down", x.fall(9), 1);
        Due.due("it is made all the same", x.ask(0, 3, Due.ADD, 0, 0, 0, -1000000), 3);
        Due.due(x, 0, 0, 0, 1, 0, 0);
        Due.due(x, 1, 1, 0, 1, 0, 0);
        Due.due(x, 2, 2, 0, 1, 0, 0);
        Due.due("count(0)", x.count(0), 4);
        Due.due("count(2)", x.count(2), 4);
    }

    private static void askIsBad() {
        Due.promise(2);
        OnceOnly x = new OnceOnly(16);
        int[][] bad = {{-1, 0, 1, 0, 0, 0, 1}, {6, 0, 1, 0, 0, 0, 1}, {9, 0, 1, 0, 0, 0, 1}, {0, -1, 1, 0, 0, 0, 1},
            {0, 4, 1, 0, 0, 0, 1}, {0, 0, -1, 0, 0, 0, 1}, {0, 0, 5, 0, 0, 0, 1}, {0, 0, 1, -1, 0, 0, 1},
            {0, 0, 1, 6, 0, 0, 1}, {0, 0, 1, 0, -1, 0, 1}, {0, 0, 1, 0, 6, 0, 1}, {0, 0, 1, 0, 0, -1, 1},
            {0, 0, 1, 0, 0, 4, 1}, {0, 0, 0, 0, 0, 0, 1000001}, {0, 0, 0, 0, 0, 0, -1000001},
            {0, 0, 1, 0, 0, 0, 1000001}, {0, 0, 1, 0, 0, 0, -1000001}, {0, 0, 2, 0, 1, 0, -1},
            {0, 0, 2, 0, 1, 0, 1000001}, {0, 0, 3, 0, 0, 0, -1}, {0, 0, 3, 0, 0, 0, 1000001}, {0, 0, 4, 0, 0, 0, 0},
            {0, 0, 4, 0, 0, 0, -1}, {0, 0, 4, 0, 0, 0, 1000001}, {0, 0, 1, 0, 0, 0, Integer.MIN_VALUE},
            {Integer.MIN_VALUE, Integer.MAX_VALUE, 1, 0, 0, 0, 0}};
        for (int[] q : bad) Due.due("ask", x.ask(q[0], q[1], q[2], q[3], q[4], q[5], q[6]), Due.BAD);
        Due.due("nothing is asked", x.count(0), 0);
        int[][] good = {{0, 0, 0, 0, 0, 0, 1000000}, {0, 0, 0, 0, 0, 0, -1000000}, {0, 0, 1, 0, 0, 0, 1000000},
            {0, 0, 1, 0, 0, 0, -1000000}, {0, 0, 2, 0, 1, 0, 0}, {0, 0, 2, 0, 1, 0, 1000000}, {0, 0, 3, 0, 0, 0, 0},
            {0, 0, 3, 0, 0, 0, 1000000}, {0, 0, 4, 0, 0, 0, 1}, {0, 0, 4, 0, 0, 0, 1000000}, {5, 3, 4, 5, 5, 3, 5}};
        int next = 0;
        for (int[] q : good) Due.due("ask", x.ask(q[0], q[1], q[2], q[3], q[4], q[5], q[6]), next++);
    }

    private static void askOrderOfRefusals() {
        Due.promise(2);
        OnceOnly x = new OnceOnly(1);
        x.ask(0, 0, Due.ADD, 0, 0, 0, 1);
        x.fall(0);
        Due.due("BAD, down, no WINDOW", x.ask(0, 0, Due.ADD, 0, 6, 0, 1), Due.BAD);
        Due.due("down, no WINDOW", x.ask(0, 0, Due.ADD, 0, 0, 0, 1), Due.STATE);
        Due.name(x, 0, 1, 1, 2);
        x.rise(0);
        Due.due("a new LIFE's first", x.ask(0, 0, Due.ADD, 0, 0, 0, 1), 1);
        Due.due("no WINDOW", x.ask(0, 0, Due.ADD, 0, 0, 0, 1), Due.FULL);
        Due.due("BAD, no WINDOW", x.ask(0, 0, Due.ADD, 0, 0, 0, 1000001), Due.BAD);
        Due.due("count(0)", x.count(0), 2);
    }

    private static void askWithoutRoom() {
        Due.promise(2);
        OnceOnly x = Due.withAsks(299);
        Due.due("ASK 300", x.ask(5, 3, Due.READ, 0, 0, 0, 0), 299);
        Due.due("ASK 301", x.ask(0, 3, Due.READ, 0, 0, 0, 0), Due.FULL);
        Due.due("BAD is first", x.ask(0, 4, Due.READ, 0, 0, 0, 0), Due.BAD);
        Due.due("count(0)", x.count(0), 300);
        Due.due("one LETTER", x.count(2), 1);
        x = Due.withLetters(119);
        Due.due("one with room", x.ask(1, 0, Due.ADD, 0, 0, 0, 1), 1);
        Due.due("its LETTER is there", x.count(2), 120);
        Due.due("one without", x.ask(2, 0, Due.ADD, 0, 0, 0, 1), 2);
        Due.due("its LETTER is not", x.count(2), 120);
        Due.due("but lost", x.count(4), 1);
        Due.due("letter(119, 0)", x.letter(119, 0), 1);
    }

    private static void again() {
        Due.promise(3);
        OnceOnly x = new OnceOnly(4);
        Due.due("again of none", x.again(0), Due.BAD);
        x.ask(0, 0, Due.ADD, 0, 0, 0, 1);
        x.ask(0, 0, Due.ADD, 0, 0, 0, 2);
        Due.due("again(-1)", x.again(-1), Due.BAD);
        Due.due("again(2)", x.again(2), Due.BAD);
        Due.due("again(300)", x.again(300), Due.BAD);
        Due.due("again(1)", x.again(1), 3);
        Due.due(x, 2, 1, 0, 1, 0, 0);
        Due.due("ASK 0 comes", x.deliver(0, 3), 1);
        Due.due("its ANSWER", x.deliver(2, 3), 0);
        Due.due("again of an ANSWERED one", x.again(0), Due.STATE);
        Due.due("again(1), LOWEST as it is now", x.again(1), 3);
        Due.due(x, 0, 1, 0, 1, 0, 0);
        Due.due(x, 2, 1, 0, 2, 0, 0);
        x.fall(0);
        Due.due("again, down", x.again(1), Due.STATE);
        x.rise(0);
        Due.due("again of one that is OVER", x.again(1), Due.STATE);
        x = Due.withLetters(119);
        Due.due("the last room", x.again(0), 120);
        Due.due("no room", x.again(0), Due.FULL);
        Due.due("nothing is lost by that", x.count(4), 0);
        Due.due("BAD is first", x.again(1), Due.BAD);
        x.fall(0);
        Due.due("STATE is next", x.again(0), Due.STATE);
    }

    private static void againOfServer() {
        Due.promise(3);
        OnceOnly x = Due.withFar(1);
        Due.due("the FAR comes", x.deliver(0, 2), 0);
        Due.due("the SERVER that asks is down", x.again(2), Due.STATE);
        x.rise(6);
        x.fall(0);
        Due.due("its ASKER is down", x.again(1), Due.STATE);
        Due.due("but the SERVER sends", x.again(2), 1);
        Due.due(x, 0, 2, 0, 1, 0, 0);
    }

    private static void told() {
        Due.promise(4);
        OnceOnly x = new OnceOnly(4);
        x.fall(4);
        x.rise(4);
        x.ask(4, 2, Due.READ, 0, 0, 0, 0);
        x.ask(4, 2, Due.ADD, 1, 0, 0, 9);
        x.flow(4);
        x.ask(4, 2, Due.FAR, 1, 3, 1, 5);
        int[] far = {4, 2, 3, 2, Due.FAR, Due.IS_OPEN, Due.NONE, Due.NONE};
        for (int what = 0; what < 8; what++) Due.due("told(2, " + what + ")", x.told(2, what), far[what]);
        Due.due("it comes", x.deliver(0, 3), 1);
        far[7] = 3;
        int[] own = {8, 1, 1, 1, Due.ADD, Due.IS_OPEN, 2, Due.NONE};
        for (int what = 0; what < 8; what++) {
            Due.due("told(2, " + what + ")", x.told(2, what), far[what]);
            Due.due("told(3, " + what + ")", x.told(3, what), own[what]);
        }
        x.flow(3);
        Due.due("the FAR is ANSWERED", x.told(2, 5), Due.IS_ANSWERED);
        Due.due("the own one is", x.told(3, 5), Due.IS_ANSWERED);
        x.ask(4, 0, Due.READ, 0, 0, 0, 0);
        x.fall(4);
        Due.due("OPEN while it is down", x.told(4, 5), Due.IS_OPEN);
        x.rise(4);
        Due.due("OVER", x.told(4, 5), Due.IS_OVER);
        int[][] bad = {{0, -1}, {0, 8}, {5, 0}, {-1, 0}, {300, 0}, {299, 0}, {Integer.MAX_VALUE, 0}};
        for (int[] b : bad) Due.due("told(" + b[0] + ", " + b[1] + ")", x.told(b[0], b[1]), Due.BAD);
    }

    private static void answer() {
        Due.promise(5);
        OnceOnly x = new OnceOnly(4);
        Due.due("answer of none", x.answer(0), Due.BAD);
        x.ask(0, 0, Due.ADD, 3, 0, 0, 77);
        Due.due("answer(0), OPEN", x.answer(0), Due.STATE);
        x.deliver(0, 3);
        Due.due("answer(0), its ANSWER under way", x.answer(0), Due.STATE);
        x.deliver(0, 3);
        Due.due("answer(0)", x.answer(0), 77);
        x.ask(0, 0, Due.ADD, 3, 0, 0, 1);
        x.flow(2);
        Due.due("answer(0) stays", x.answer(0), 77);
        Due.due("answer(1)", x.answer(1), 78);
        x.ask(0, 0, Due.READ, 3, 0, 0, 0);
        x.fall(0);
        x.rise(0);
        Due.due("answer(2), OVER", x.answer(2), Due.STATE);
        Due.due("answer(3)", x.answer(3), Due.BAD);
        Due.due("answer(-1)", x.answer(-1), Due.BAD);
    }

    private static void name() {
        Due.promise(6);
        OnceOnly x = new OnceOnly(4);
        for (int i = 0; i < 3; i++) x.ask(1, 0, Due.ADD, 0, 0, 0, 1);
        Due.name(x, 1, 1, 1, 4);
        x.deliver(1, 3);
        x.deliver(2, 3);
        Due.name(x, 1, 1, 1, 4);
        x.deliver(0, 3);
        x.deliver(1, 3);
        Due.name(x, 1, 3, 1, 4);
        x.flow(2);
        Due.name(x, 1, 4, 1, 4);
        x.ask(1, 0, Due.ADD, 0, 0, 0, 1);
        x.fall(1);
        Due.name(x, 1, 4, 1, 5);
        x.rise(1);
        Due.name(x, 1, 1, 2, 1);
        int[][] bad = {{-1, 0}, {10, 0}, {0, -1}, {0, 3}, {Integer.MIN_VALUE, 0}};
        for (int[] b : bad) Due.due("name(" + b[0] + ", " + b[1] + ")", x.name(b[0], b[1]), Due.BAD);
        x = Due.withFar(1);
        x.deliver(0, 3);
        Due.name(x, 6, 1, 1, 2);
        x.flow(3);
        Due.name(x, 6, 2, 1, 2);
        x.fall(6);
        x.rise(6);
        Due.name(x, 6, 2, 1, 2);
    }
}
