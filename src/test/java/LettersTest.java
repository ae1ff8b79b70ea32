/** Promises 7 to 14: deliver with its MOMENTS, lose, twice, bend, letter, flow, fall, rise. */
public final class LettersTest {
    private LettersTest() {
    }

    public static void main(String[] args) {
        deliver();
        momentsOfServer();
        momentOneKeepsWhatIsLearnt();
        momentsOfOver();
        momentsOfFar();
        momentsOfFarsAnswer();
        momentsOfAsker();
        bentOnes();
        downOnes();
        lose();
        twice();
        bend();
        letter();
        flow();
        fall();
        rise();
        Due.end("LettersTest");
    }

    private static void deliver() {
        Due.promise(7);
        OnceOnly x = new OnceOnly(4);
        Due.due("deliver of none", x.deliver(0, 3), Due.BAD);
        x.ask(0, 0, Due.ADD, 0, 0, 0, 1);
        x.ask(1, 0, Due.ADD, 0, 0, 0, 2);
        x.ask(2, 0, Due.ADD, 0, 0, 0, 4);
        int[][] bad = {{0, -1}, {0, 4}, {-1, 3}, {3, 3}, {120, 3}, {Integer.MAX_VALUE, 0}};
        for (int[] b : bad) Due.due("deliver(" + b[0] + ", " + b[1] + ")", x.deliver(b[0], b[1]), Due.BAD);
        Due.due("none came", x.count(3), 0);
        Due.due("the middle one", x.deliver(1, 3), 1);
        Due.due("account(0, 0)", x.account(0, 0), 2);
        Due.due("three", x.count(2), 3);
        Due.due("letter(0, 0)", x.letter(0, 0), 0);
        Due.due("letter(1, 0)", x.letter(1, 0), 2);
        Due.due(x, 2, 1, 1, Due.NONE, 0, 0);
        Due.due("its ANSWER", x.deliver(2, 3), 0);
        Due.due("answer(1)", x.answer(1), 2);
        x.ask(0, 0, Due.ADD, 0, 0, 0, 8);
        Due.due("the second NUMBER", x.deliver(2, 3), 1);
        x.deliver(2, 3);
        x.deliver(0, 3);
        x.deliver(1, 3);
        x.ask(0, 0, Due.READ, 0, 0, 0, 0);
        x.deliver(1, 3);
        Due.due("a NUMBER below LOW", x.kept(0, 0, 1), 3);
        x = Due.withLetters(120);
        Due.due("one of 120 leaves room for its ANSWER", x.deliver(5, 3), 1);
        Due.due("120 again", x.count(2), 120);
        Due.due(x, 119, 0, 1, Due.NONE, 0, 0);
        Due.due("none is lost", x.count(4), 0);
        Due.due("another of it: the same ANSWER", x.deliver(5, 3), 1);
        Due.due("done once", x.account(0, 0), 7);
    }

    private static void momentsOfServer() {
        Due.promise(7);
        int[] accounts = {0, 0, 5, 5};
        for (int moment = 0; moment < 4; moment++) {
            OnceOnly x = new OnceOnly(4);
            x.ask(0, 1, Due.ADD, 2, 0, 0, 5);
            Due.due("deliver(0, " + moment + ")", x.deliver(0, moment), moment == 3 ? 1 : 0);
            Due.due("account", x.account(1, 2), accounts[moment]);
            Due.due("times", x.times(0), accounts[moment] / 5);
            Due.due("the RECORD", x.record(1, 0, 1), accounts[moment] / 5);
            Due.kept(x, 1, 0, moment == 0 ? 0 : 1, 1, accounts[moment] / 5);
            Due.due("LETTERS", x.count(2), moment == 3 ? 1 : 0);
            Due.due("lost ones", x.count(4), 0);
            Due.due("falls", x.count(5), moment == 3 ? 0 : 1);
            Due.due("rise", x.rise(7), moment == 3 ? Due.STATE : 1);
            x.again(0);
            x.flow(3);
            Due.due("done once in the end", x.account(1, 2), 5);
            Due.due("answer", x.answer(0), 5);
        }
    }

    private static void momentOneKeepsWhatIsLearnt() {
        Due.promise(7);
        OnceOnly x = new OnceOnly(2);
        x.ask(0, 0, Due.ADD, 0, 0, 0, 1);
        x.ask(0, 0, Due.ADD, 0, 0, 0, 2);
        x.flow(9);
        Due.kept(x, 0, 0, 1, 1, 2);
        x.ask(0, 0, Due.ADD, 0, 0, 0, 4);
        Due.due("as it comes", x.deliver(0, 0), 0);
        x.rise(6);
        Due.kept(x, 0, 0, 1, 1, 2);
        x.again(2);
        Due.due("ahead of the writing", x.deliver(0, 1), 0);
        Due.kept(x, 0, 0, 1, 3, 0);
        Due.due("not done", x.account(0, 0), 3);
        x.rise(6);
        x.again(2);
        x.flow(2);
        Due.kept(x, 0, 0, 1, 3, 1);
        x.fall(0);
        x.rise(0);
        x.ask(0, 0, Due.ADD, 0, 0, 0, 8);
        Due.due("of a new LIFE, ahead of the writing", x.deliver(0, 1), 0);
        Due.kept(x, 0, 0, 2, 1, 0);
        Due.due("still not done", x.account(0, 0), 7);
    }

    private static void momentsOfOver() {
        Due.promise(7);
        for (int moment = 0; moment < 4; moment++) {
            OnceOnly x = Due.withMoney(4, 0, 1);
            x.leave(0, 0);
            x.ask(0, 0, Due.ADD, 0, 0, 0, 5);
            Due.due("one of an older LIFE", x.deliver(0, moment), moment == 3 ? 1 : 0);
            Due.due("LETTERS", x.count(2), moment == 3 ? 1 : 0);
            Due.kept(x, 0, 0, 2, 1, 0);
            x.lose(0);
            x.rise(6);
            x.again(1);
            x.deliver(0, 3);
            Due.due("its OVER comes to the ASKER", x.deliver(0, moment), 0);
            Due.due("told(1, 5)", x.told(1, 5), moment == 0 ? Due.IS_OPEN : Due.IS_OVER);
            x.rise(0);
            x.ask(1, 0, Due.ADD, 0, 0, 0, 7);
            x.flow(200);
            Due.due("the next ANSWER is no OVER", x.answer(2), 8);
        }
    }

    private static void momentsOfFar() {
        Due.promise(7);
        for (int moment = 0; moment < 4; moment++) {
            OnceOnly x = Due.withFar(1);
            boolean done = moment > 1;
            Due.due("the FAR comes", x.deliver(0, moment), moment == 3 ? 1 : 0);
            Due.due("a has", x.account(0, 0), done ? 70 : 100);
            Due.due("the RECORD", x.record(0, 0, 2), done ? Due.MIDST : Due.NO_RECORD);
            Due.due("the own ASK", x.told(1, 7), done ? 2 : Due.NONE);
            Due.due("ASKS", x.count(0), done ? 3 : 2);
            Due.name(x, 6, 1, 1, done ? 2 : 1);
            Due.due("LETTERS", x.count(2), moment == 3 ? 1 : 0);
            Due.due("under way", x.audit(1), done ? 30 : 0);
            x.rise(6);
            x.again(1);
            x.flow(20);
            Due.due("a has in the end", x.account(0, 0), 70);
            Due.due("b", x.account(1, 2), 30);
            Due.due("answer", x.answer(1), 70);
            Due.due("three ASKS", x.count(0), 3);
        }
    }

    private static void momentsOfFarsAnswer() {
        Due.promise(7);
        for (int moment = 0; moment < 4; moment++) {
            OnceOnly x = Due.withFar(1);
            boolean done = moment > 1;
            x.deliver(0, 3);
            x.deliver(0, 3);
            Due.due(x, 0, 2, 1, Due.NONE, 0, 0);
            Due.due("the ANSWER comes to the SERVER", x.deliver(0, moment), moment == 3 ? 1 : 0);
            Due.due("the own ASK", x.told(2, 5), done ? Due.IS_ANSWERED : Due.IS_OPEN);
            Due.due("the RECORD", x.record(0, 0, 2), done ? Due.DONE : Due.MIDST);
            Due.due("LETTERS", x.count(2), moment == 3 ? 1 : 0);
            Due.due("falls", x.count(5), moment == 3 ? 0 : 1);
            x.rise(6);
            x.again(1);
            x.flow(20);
            Due.due("answer in the end", x.answer(1), 70);
            Due.due("b", x.account(1, 2), 30);
        }
    }

    private static void momentsOfAsker() {
        Due.promise(7);
        for (int moment = 0; moment < 4; moment++) {
            OnceOnly x = new OnceOnly(4);
            x.ask(3, 0, Due.ADD, 0, 0, 0, 6);
            x.deliver(0, 3);
            Due.due("the ANSWER comes", x.deliver(0, moment), 0);
            Due.due("it is", x.told(0, 5), moment == 0 ? Due.IS_OPEN : Due.IS_ANSWERED);
            Due.due("falls", x.count(5), moment == 3 ? 0 : 1);
            Due.due("rise", x.rise(3), moment == 3 ? Due.STATE : 2);
            Due.due("it is then", x.told(0, 5), moment == 0 ? Due.IS_OVER : Due.IS_ANSWERED);
        }
    }

    private static void bentOnes() {
        Due.promise(7);
        for (int moment = 0; moment < 4; moment++) {
            OnceOnly x = Due.withMoney(2, 0, 1);
            x.ask(0, 0, Due.ADD, 0, 0, 0, 5);
            x.bend(0);
            Due.due("a BENT one comes", x.deliver(0, moment), 0);
            Due.kept(x, 0, 0, 1, 1, 1);
            Due.due("account", x.account(0, 0), 1);
            Due.due("it came", x.count(3), 3);
            Due.due("falls", x.count(5), moment == 3 ? 0 : 1);
            x.rise(6);
            x.again(1);
            x.deliver(0, 3);
            x.bend(0);
            Due.due("a BENT ANSWER comes", x.deliver(0, moment), 0);
            Due.due("it does nothing", x.told(1, 5), Due.IS_OPEN);
            Due.due("falls", x.count(5), moment == 3 ? 0 : 2);
        }
    }

    private static void downOnes() {
        Due.promise(7);
        for (int moment = 0; moment < 4; moment++) {
            OnceOnly x = new OnceOnly(2);
            x.ask(0, 0, Due.ADD, 0, 0, 0, 5);
            x.fall(6);
            Due.due("one comes to a SERVER that is down", x.deliver(0, moment), 0);
            Due.due("it came", x.count(3), 1);
            Due.due("it is not lost", x.count(4), 0);
            Due.due("no fall more", x.count(5), 1);
            x.rise(6);
            Due.kept(x, 0, 0, 0, 1, 0);
            x.again(0);
            x.deliver(0, 3);
            x.fall(0);
            Due.due("one comes to an ASKER that is down", x.deliver(0, moment), 0);
            Due.due("still OPEN", x.told(0, 5), Due.IS_OPEN);
            Due.due("no fall more", x.count(5), 2);
        }
    }

    private static void lose() {
        Due.promise(8);
        OnceOnly x = new OnceOnly(4);
        Due.due("lose of none", x.lose(0), Due.BAD);
        for (int asker = 0; asker < 3; asker++) x.ask(asker, 0, Due.ADD, 0, 0, 0, 1);
        Due.due("lose(-1)", x.lose(-1), Due.BAD);
        Due.due("lose(3)", x.lose(3), Due.BAD);
        Due.due("lose(1)", x.lose(1), 2);
        Due.due("letter(0, 0)", x.letter(0, 0), 0);
        Due.due("letter(1, 0)", x.letter(1, 0), 2);
        Due.due("letter(2, 0)", x.letter(2, 0), Due.NONE);
        Due.due("lose(1)", x.lose(1), 1);
        Due.due("lose(0)", x.lose(0), 0);
        Due.due("count(4)", x.count(4), 3);
        Due.due("count(3)", x.count(3), 0);
        x.again(2);
        Due.due(x, 0, 2, 0, 1, 0, 0);
    }

    private static void twice() {
        Due.promise(9);
        OnceOnly x = new OnceOnly(4);
        Due.due("twice of none", x.twice(0), Due.BAD);
        x.ask(0, 0, Due.ADD, 0, 0, 0, 5);
        x.ask(1, 0, Due.ADD, 0, 0, 0, 6);
        Due.due("twice(-1)", x.twice(-1), Due.BAD);
        Due.due("twice(2)", x.twice(2), Due.BAD);
        x.bend(0);
        Due.due("twice(0)", x.twice(0), 3);
        Due.due("letter(1, 0)", x.letter(1, 0), 1);
        Due.due(x, 2, 0, 0, 1, 1, 0);
        x.deliver(1, 3);
        Due.due("of an ANSWER's", x.twice(2), 4);
        Due.due(x, 3, 1, 1, Due.NONE, 0, 0);
        x.deliver(2, 3);
        Due.due("the first ANSWER", x.answer(1), 6);
        Due.due("the other does nothing", x.deliver(2, 3), 0);
        x.leave(0, 2);
        x.leave(0, 2);
        x.ask(2, 0, Due.READ, 0, 0, 0, 0);
        x.deliver(2, 3);
        x.twice(2);
        Due.due(x, 3, 2, 1, Due.NONE, 0, 1);
        x.deliver(3, 3);
        Due.due("its OVER", x.told(2, 5), Due.IS_OVER);
        x = Due.withLetters(119);
        Due.due("the last room", x.twice(118), 120);
        Due.due("no room", x.twice(0), Due.FULL);
        Due.due("BAD is first", x.twice(120), Due.BAD);
        Due.due("none is lost by that", x.count(4), 0);
    }

    private static void bend() {
        Due.promise(10);
        OnceOnly x = new OnceOnly(4);
        Due.due("bend of none", x.bend(0), Due.BAD);
        x.ask(0, 0, Due.ADD, 0, 0, 0, 5);
        x.twice(0);
        Due.due("bend(-1)", x.bend(-1), Due.BAD);
        Due.due("bend(2)", x.bend(2), Due.BAD);
        Due.due("bend(1)", x.bend(1), 1);
        Due.due("bend(1)", x.bend(1), 0);
        Due.due("letter(0, 3)", x.letter(0, 3), 0);
        Due.due("letter(1, 3)", x.letter(1, 3), 1);
        x.lose(1);
        Due.due("again", x.again(0), 2);
        Due.due("a new one is whole", x.letter(1, 3), 0);
    }

    private static void letter() {
        Due.promise(11);
        OnceOnly x = new OnceOnly(4);
        Due.due("letter(0, 0)", x.letter(0, 0), Due.NONE);
        Due.due("letter(0, 5): BAD is first", x.letter(0, 5), Due.BAD);
        x.ask(0, 0, Due.ADD, 0, 0, 0, 5);
        x.ask(0, 0, Due.ADD, 0, 0, 0, 5);
        Due.due("letter(0, -1)", x.letter(0, -1), Due.BAD);
        Due.due("letter(0, 5)", x.letter(0, 5), Due.BAD);
        Due.due("letter(2, 4)", x.letter(2, 4), Due.NONE);
        Due.due("letter(120, 0)", x.letter(120, 0), Due.NONE);
        Due.due("letter(-1, 0)", x.letter(-1, 0), Due.NONE);
        Due.due("letter(MIN, 9)", x.letter(Integer.MIN_VALUE, 9), Due.BAD);
        Due.due(x, 1, 1, 0, 1, 0, 0);
        x.flow(4);
        x.ask(0, 0, Due.ADD, 0, 0, 0, 5);
        Due.due(x, 0, 2, 0, 3, 0, 0);
        x.leave(0, 0);
        x.deliver(0, 3);
        Due.due(x, 0, 2, 1, Due.NONE, 0, 1);
    }

    private static void flow() {
        Due.promise(12);
        OnceOnly x = new OnceOnly(4);
        Due.due("flow of none", x.flow(1), 0);
        int[] bad = {0, -1, 201, Integer.MAX_VALUE, Integer.MIN_VALUE};
        x.ask(0, 0, Due.ADD, 0, 0, 0, 5);
        x.ask(1, 0, Due.ADD, 0, 0, 0, 6);
        for (int n : bad) Due.due("flow(" + n + ")", x.flow(n), Due.BAD);
        Due.due("none came", x.count(3), 0);
        Due.due("flow(1): the first one", x.flow(1), 1);
        Due.due("letter(0, 0)", x.letter(0, 0), 1);
        Due.due("flow(2)", x.flow(2), 2);
        Due.due("answer(0)", x.answer(0), 5);
        Due.due("the last is under way", x.count(2), 1);
        Due.due("flow(200)", x.flow(200), 1);
        Due.due("count(3)", x.count(3), 4);
        x.ask(0, 0, Due.ADD, 0, 0, 0, 5);
        x.bend(0);
        Due.due("a BENT one comes, too", x.flow(9), 1);
        Due.due("but does nothing", x.account(0, 0), 11);
        Due.due("no end falls", x.count(5), 0);
        x = Due.withLetters(120);
        Due.due("200 at most", x.flow(200), 200);
        Due.due("what is left", x.count(2), 40);
        Due.due("done once", x.account(0, 0), 7);
    }

    private static void fall() {
        Due.promise(13);
        OnceOnly x = new OnceOnly(4);
        Due.due("fall(-1)", x.fall(-1), Due.BAD);
        Due.due("fall(10)", x.fall(10), Due.BAD);
        for (int name = 0; name < 10; name++) {
            Due.due("fall(" + name + ")", x.fall(name), 1);
            Due.due("fall(" + name + ") again", x.fall(name), Due.STATE);
            Due.due("falls", x.count(5), name + 1);
        }
        for (int asker = 0; asker < 6; asker++) Due.due("ask", x.ask(asker, 0, 0, 0, 0, 0, 0), Due.STATE);
        for (int server = 0; server < 4; server++) Due.due("leave", x.leave(server, 0), Due.STATE);
    }

    private static void rise() {
        Due.promise(14);
        OnceOnly x = new OnceOnly(4);
        Due.due("rise(-1)", x.rise(-1), Due.BAD);
        Due.due("rise(10)", x.rise(10), Due.BAD);
        Due.due("rise(0)", x.rise(0), Due.STATE);
        x.ask(0, 0, Due.ADD, 0, 0, 0, 5);
        x.ask(0, 0, Due.ADD, 1, 0, 0, 6);
        x.ask(1, 0, Due.ADD, 2, 0, 0, 7);
        x.deliver(0, 3);
        x.deliver(2, 3);
        x.fall(0);
        x.fall(6);
        Due.due("a SERVER's LIFE", x.rise(6), 1);
        Due.due("it has what it had", x.account(0, 0), 5);
        Due.kept(x, 0, 0, 1, 1, 1);
        Due.due("an ASKER's", x.rise(0), 2);
        Due.due("ANSWERED stays", x.told(0, 5), Due.IS_ANSWERED);
        Due.due("OPEN is OVER", x.told(1, 5), Due.IS_OVER);
        Due.due("another's is OPEN", x.told(2, 5), Due.IS_OPEN);
        Due.name(x, 0, 1, 2, 1);
        x.ask(0, 0, Due.ADD, 0, 0, 0, 50);
        Due.due("NUMBER 1 of LIFE 2", x.told(3, 1) * 10 + x.told(3, 2), 21);
        x.deliver(2, 3);
        Due.kept(x, 0, 0, 2, 1, 1);
        Due.due("the older LIFE's LETTER", x.deliver(0, 3), 1);
        Due.due("is answered OVER", x.letter(2, 4), 1);
        Due.due("it is not done", x.account(0, 1), 0);
        x.flow(9);
        Due.due("the new one is done", x.account(0, 0), 55);
        x.fall(0);
        Due.due("LIFE 3", x.rise(0), 3);
    }
}
