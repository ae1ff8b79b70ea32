/** Promises 15 to 23, and what a SERVER does with the KINDS. */
public final class ServersTest {
    private static final int[] IDS = {-1, 1, 300, Integer.MAX_VALUE, Integer.MIN_VALUE};

    private ServersTest() {
    }

    public static void main(String[] args) {
        account();
        adds();
        moves();
        reads();
        fars();
        farsNotLet();
        farWithoutRoom();
        farToItself();
        farOfOlderLife();
        cancels();
        cancelEdges();
        kept();
        record();
        leave();
        leaveInMidst();
        times();
        audit();
        witnessAndCheck();
        count();
        Due.end("ServersTest");
    }

    private static void account() {
        Due.promise(15);
        OnceOnly x = new OnceOnly(16);
        int sum = 0;
        for (int server = 0; server < 4; server++) {
            for (int a = 0; a < 6; a++) x.ask(a, server, Due.ADD, a, 5 - a, 3 - server, ++sum);
        }
        x.flow(48);
        sum = 0;
        for (int server = 0; server < 4; server++) {
            for (int a = 0; a < 6; a++) Due.due("account(" + server + ", " + a + ")", x.account(server, a), ++sum);
        }
        x.fall(6);
        Due.due("of one that is down", x.account(0, 0), 1);
        int[][] bad = {{-1, 0}, {4, 0}, {0, -1}, {0, 6}, {Integer.MAX_VALUE, 0}, {0, Integer.MIN_VALUE}};
        for (int[] b : bad) Due.due("account(" + b[0] + ", " + b[1] + ")", x.account(b[0], b[1]), Due.BAD);
    }

    private static void adds() {
        Due.promise(15);
        OnceOnly x = new OnceOnly(4);
        Due.asks(x, Due.ADD, 2, 0, 0, 0);
        Due.asks(x, Due.ADD, 2, 0, 10, 10);
        Due.asks(x, Due.ADD, 2, 0, -4, 6);
        Due.asks(x, Due.ADD, 2, 0, -7, -1);
        Due.due("an ADD NOT LET has a RECORD", x.record(0, 0, 4), Due.DONE);
        Due.asks(x, Due.ADD, 2, 0, -6, 0);
        Due.asks(x, Due.ADD, 2, 0, -1, -1);
        Due.due("account", x.account(0, 2), 0);
    }

    private static void moves() {
        Due.promise(15);
        OnceOnly x = new OnceOnly(4);
        Due.asks(x, Due.ADD, 1, 0, 10, 10);
        Due.asks(x, Due.MOVE, 1, 2, 11, -1);
        Due.asks(x, Due.MOVE, 1, 2, 4, 6);
        Due.due("b", x.account(0, 2), 4);
        Due.asks(x, Due.MOVE, 1, 2, 6, 0);
        Due.due("b", x.account(0, 2), 10);
        Due.asks(x, Due.MOVE, 1, 2, 0, 0);
        Due.asks(x, Due.MOVE, 2, 2, 1000000, 10);
        Due.due("a and b one: let, and done", x.times(5), 1);
        Due.due("but nothing is more or less", x.account(0, 2), 10);
    }

    private static void reads() {
        Due.promise(15);
        OnceOnly x = new OnceOnly(4);
        Due.asks(x, Due.ADD, 3, 0, 10, 10);
        Due.asks(x, Due.READ, 3, 0, -5, 10);
        Due.due("a READ has no RECORD", x.record(0, 0, 2), Due.NO_RECORD);
        int read = x.ask(0, 0, Due.READ, 3, 0, 0, 0);
        x.twice(0);
        x.deliver(0, 3);
        x.ask(1, 0, Due.ADD, 3, 0, 0, 5);
        x.deliver(2, 3);
        Due.due("it is read anew", x.deliver(0, 3), 1);
        x.deliver(2, 3);
        Due.due("the later ANSWER came first", x.answer(read), 15);
    }

    private static void fars() {
        Due.promise(15);
        OnceOnly x = Due.withFar(3);
        Due.due("it comes", x.deliver(0, 3), 1);
        Due.due(x, 0, 2, 0, 1, 0, 0);
        Due.due("again", x.again(1), 2);
        Due.due("MIDST: the own ASK's LETTER", x.deliver(1, 3), 1);
        Due.due(x, 1, 2, 0, 1, 0, 0);
        Due.due("a has less, once", x.account(0, 0), 70);
        Due.due("the ADD", x.deliver(0, 3), 1);
        Due.due("b has more", x.account(3, 2), 30);
        Due.due("the ADD again", x.deliver(0, 3), 1);
        Due.due("b has it once", x.account(3, 2), 30);
        Due.kept(x, 3, 6, 1, 1, 1);
        x.ask(1, 0, Due.ADD, 0, 0, 0, 5);
        x.deliver(2, 3);
        Due.due("the own ANSWER", x.deliver(0, 3), 1);
        Due.due("once more: nothing", x.deliver(0, 3), 0);
        Due.due("LETTERS", x.count(2), 2);
        x.flow(2);
        Due.due("what a has then", x.answer(1), 75);
        Due.due("the own ANSWER", x.answer(2), 30);
        Due.due("DONE", x.record(0, 0, 2), Due.DONE);
    }

    private static void farsNotLet() {
        Due.promise(15);
        OnceOnly x = new OnceOnly(4);
        Due.asks(x, Due.ADD, 0, 0, 10, 10);
        Due.asks(x, Due.FAR, 0, 3, 11, -1);
        Due.due("a RECORD", x.record(0, 0, 2), Due.DONE);
        Due.due("no own ASK", x.told(1, 7), Due.NONE);
        Due.asks(x, Due.FAR, 0, 3, 10, 0);
        Due.due("b", x.account(1, 3), 10);
        Due.asks(x, Due.FAR, 0, 3, 0, 0);
        Due.due("done", x.times(4), 1);
    }

    private static void farWithoutRoom() {
        Due.promise(15);
        OnceOnly x = new OnceOnly(1);
        for (int asker = 0; asker < 3; asker++) x.ask(asker, 0, Due.ADD, asker, 0, 0, 10);
        x.flow(6);
        for (int asker = 0; asker < 3; asker++) x.ask(asker, 0, Due.FAR, asker, 5, 1, 4);
        Due.due("in the SERVER's WINDOW", x.deliver(0, 3), 1);
        Due.due("past it: an ANSWER", x.deliver(0, 3), 1);
        Due.due(x, 2, 4, 1, Due.NONE, 0, 0);
        Due.due("nothing is less", x.account(0, 1), 10);
        x.deliver(2, 3);
        Due.due("NOT LET", x.answer(4), -1);
        Due.due("the own one is ANSWERED", x.deliver(1, 3) + x.deliver(1, 3), 2);
        Due.due("room again", x.deliver(0, 3), 1);
        x.flow(9);
        Due.due("b", x.account(1, 5), 8);
        Due.due("a", x.account(0, 2), 6);
        x = Due.withAsks(298);
        x.ask(0, 3, Due.FAR, 0, 0, 0, 0);
        x.flow(9);
        Due.due("the last room", x.answer(298), 0);
        Due.due("count(0)", x.count(0), 300);
        x = Due.withAsks(299);
        x.ask(0, 3, Due.FAR, 0, 0, 0, 0);
        x.flow(9);
        Due.due("300 ASKS", x.answer(299), -1);
        Due.due("not done", x.times(299), 0);
        Due.due("count(0)", x.count(0), 300);
    }

    private static void farToItself() {
        Due.promise(15);
        OnceOnly x = Due.withMoney(4, 0, 100);
        Due.due("of a to a of itself", x.ask(0, 0, Due.FAR, 0, 0, 0, 30), 1);
        Due.due("it comes", x.deliver(0, 3), 1);
        Due.due("less meanwhile", x.account(0, 0), 70);
        Due.due("to itself", x.deliver(0, 3), 1);
        Due.due("more", x.account(0, 0), 100);
        Due.kept(x, 0, 6, 1, 1, 1);
        x.flow(9);
        Due.due("answer", x.answer(1), 100);
        Due.due("more than it has is NOT LET", x.ask(0, 0, Due.FAR, 0, 0, 0, 101), 3);
        x.flow(9);
        Due.due("answer", x.answer(3), -1);
    }

    private static void farOfOlderLife() {
        Due.promise(15);
        OnceOnly x = new OnceOnly(4);
        x.ask(1, 0, Due.ADD, 0, 0, 0, 100);
        x.flow(2);
        x.ask(0, 0, Due.FAR, 0, 2, 1, 30);
        x.deliver(0, 3);
        x.fall(0);
        x.rise(0);
        x.ask(0, 0, Due.FAR, 0, 2, 1, 20);
        x.deliver(1, 3);
        Due.due("MIDST by the same NUMBER", x.record(0, 0, 1), Due.MIDST);
        x.deliver(0, 3);
        Due.due("the older one's own ANSWER", x.deliver(1, 3), 0);
        Due.due("is kept", x.told(2, 5), Due.IS_ANSWERED);
        Due.due("but is not the new RECORD's", x.record(0, 0, 1), Due.MIDST);
        x.flow(9);
        Due.due("answer", x.answer(3), 50);
        Due.due("both are done", x.account(1, 2), 50);
    }

    private static void cancels() {
        Due.promise(17);
        OnceOnly x = new OnceOnly(4);
        x.ask(0, 0, Due.ADD, 0, 0, 0, 9);
        x.ask(0, 0, Due.CANCEL, 0, 0, 0, 1);
        Due.due("ahead of the ADD", x.deliver(1, 3), 1);
        Due.due("record(0, 0, 1)", x.record(0, 0, 1), Due.CANCELLED);
        Due.due("record(0, 0, 2)", x.record(0, 0, 2), Due.DONE);
        Due.due("the ADD", x.deliver(0, 3), 1);
        x.flow(2);
        Due.due("the CANCEL's ANSWER", x.answer(1), 1);
        Due.due("the ADD's", x.answer(0), -2);
        Due.due("not done", x.account(0, 0), 0);
        Due.due("times", x.times(0) + x.times(1), 0);
        x = new OnceOnly(4);
        x.ask(0, 0, Due.READ, 0, 0, 0, 0);
        x.deliver(0, 3);
        x.ask(0, 0, Due.CANCEL, 0, 0, 0, 1);
        x.ask(0, 0, Due.CANCEL, 0, 0, 0, 1);
        x.deliver(1, 3);
        x.deliver(1, 3);
        x.again(0);
        Due.due("a READ, CANCELLED", x.deliver(3, 3), 1);
        x.deliver(1, 3);
        x.deliver(1, 3);
        Due.due("of one that was READ", x.answer(1), 1);
        Due.due("of one that is CANCELLED", x.answer(2), 1);
        x.deliver(1, 3);
        Due.due("the READ's later ANSWER", x.answer(0), -2);
    }

    private static void cancelEdges() {
        Due.promise(17);
        OnceOnly x = new OnceOnly(3);
        x.ask(0, 0, Due.ADD, 0, 0, 0, 9);
        Due.asks(x, Due.CANCEL, 0, 0, 1, 0);
        Due.asks(x, Due.CANCEL, 0, 0, 3, 0);
        Due.asks(x, Due.CANCEL, 0, 0, 1, 0);
        Due.due("LOW", x.kept(0, 0, 1), 4);
        Due.asks(x, Due.CANCEL, 0, 0, 7, 1);
        Due.due("of LOW 5 and 2", x.record(0, 0, 7), Due.CANCELLED);
        Due.asks(x, Due.CANCEL, 0, 0, 9, 3);
        Due.due("of LOW 6 and 3", x.record(0, 0, 9), Due.NO_RECORD);
        Due.asks(x, Due.READ, 0, 0, 0, -2);
        Due.asks(x, Due.CANCEL, 0, 0, 1000000, 3);
        Due.asks(x, Due.CANCEL, 0, 0, 9, 0);
        Due.asks(x, Due.CANCEL, 0, 0, 9, 0);
        x = Due.withFar(1);
        x.deliver(0, 3);
        x.ask(0, 0, Due.CANCEL, 0, 0, 0, 2);
        x.deliver(1, 3);
        x.deliver(1, 3);
        Due.due("of one in MIDST", x.answer(3), 2);
        Due.due("it stays so", x.record(0, 0, 2), Due.MIDST);
    }

    private static void kept() {
        Due.promise(16);
        OnceOnly x = new OnceOnly(4);
        int[][] bad = {{-1, 0, 0}, {4, 0, 0}, {0, -1, 0}, {0, 10, 0}, {0, 0, -1}, {0, 0, 3}};
        for (int[] b : bad) Due.due("kept", x.kept(b[0], b[1], b[2]), Due.BAD);
        for (int i = 0; i < 3; i++) x.ask(2, 3, Due.ADD, 0, 0, 0, 1);
        x.flow(9);
        Due.kept(x, 3, 2, 1, 1, 3);
        x.ask(2, 3, Due.READ, 0, 0, 0, 0);
        x.deliver(0, 3);
        Due.kept(x, 3, 2, 1, 4, 0);
        x.ask(2, 3, Due.ADD, 0, 0, 0, 1);
        x.ask(2, 3, Due.ADD, 0, 0, 0, 1);
        x.deliver(1, 3);
        Due.kept(x, 3, 2, 1, 4, 1);
        x.fall(2);
        x.rise(2);
        x.ask(2, 3, Due.ADD, 0, 0, 0, 1);
        x.deliver(3, 3);
        Due.kept(x, 3, 2, 2, 1, 1);
        Due.kept(x, 3, 1, 0, 1, 0);
        Due.kept(x, 2, 2, 0, 1, 0);
        x.deliver(1, 3);
        Due.kept(x, 3, 2, 2, 1, 1);
    }

    private static void record() {
        Due.promise(17);
        OnceOnly x = new OnceOnly(2);
        int[][] bad = {{-1, 0, 1}, {4, 0, 1}, {0, -1, 1}, {0, 10, 1}};
        for (int[] b : bad) Due.due("record", x.record(b[0], b[1], b[2]), Due.BAD);
        x.ask(0, 0, Due.ADD, 0, 0, 0, 1);
        x.flow(2);
        int[] none = {0, -1, 2, 3, 17, 18, -15, Integer.MAX_VALUE, Integer.MIN_VALUE, Integer.MIN_VALUE + 1};
        for (int number : none) Due.due("record(0, 0, " + number + ")", x.record(0, 0, number), Due.NO_RECORD);
        Due.due("record(0, 0, 1)", x.record(0, 0, 1), Due.DONE);
        x.ask(0, 0, Due.ADD, 0, 0, 0, 1);
        x.deliver(0, 3);
        Due.due("below LOW", x.record(0, 0, 1), Due.NO_RECORD);
        Due.due("record(0, 0, 2)", x.record(0, 0, 2), Due.DONE);
        x = Due.withFar(1);
        x.deliver(0, 3);
        Due.due("MIDST", x.record(0, 0, 2), Due.MIDST);
        x.deliver(0, 3);
        Due.due("of a SERVER's NAME", x.record(1, 6, 1), Due.DONE);
    }

    private static void leave() {
        Due.promise(18);
        OnceOnly x = new OnceOnly(4);
        int[][] bad = {{-1, 0}, {4, 0}, {0, -1}, {0, 6}, {0, 9}, {Integer.MAX_VALUE, 0}, {-7, 0}};
        for (int[] b : bad) Due.due("leave(" + b[0] + ", " + b[1] + ")", x.leave(b[0], b[1]), Due.BAD);
        Due.due("of one that never asked", x.leave(0, 5), 0);
        Due.kept(x, 0, 5, 1, 1, 0);
        for (int i = 0; i < 3; i++) x.ask(5, 0, Due.ADD, 0, 0, 0, 1);
        x.flow(200);
        x.ask(5, 0, Due.ADD, 0, 0, 0, 1);
        x.ask(5, 0, Due.ADD, 0, 0, 0, 1);
        x.deliver(0, 3);
        x.deliver(0, 3);
        Due.kept(x, 0, 5, 1, 4, 2);
        x.fall(6);
        Due.due("down, BAD", x.leave(0, 6), Due.BAD);
        Due.due("down", x.leave(0, 5), Due.STATE);
        for (int server = 1; server < 4; server++) Due.due("others are up", x.leave(server, 0), 0);
        x.rise(6);
        x.fall(5);
        Due.due("leave", x.leave(0, 5), 2);
        Due.kept(x, 0, 5, 2, 1, 0);
        Due.due("it rises with that LIFE", x.rise(5), 2);
        x.ask(5, 0, Due.ADD, 0, 0, 0, 1);
        x.flow(200);
        Due.due("and is heard", x.answer(5), 6);
        Due.due("leave", x.leave(0, 5), 1);
        x.ask(5, 0, Due.ADD, 0, 0, 0, 1);
        x.ask(5, 1, Due.ADD, 0, 0, 0, 1);
        x.flow(200);
        Due.due("of an older LIFE: OVER", x.told(6, 5), Due.IS_OVER);
        Due.due("LOW stays", x.kept(0, 5, 1), 1);
        Due.due("another SERVER hears it", x.answer(7), 1);
        Due.name(x, 5, 4, 2, 4);
    }

    private static void leaveInMidst() {
        Due.promise(18);
        OnceOnly x = Due.withFar(1);
        x.deliver(0, 3);
        Due.due("MIDST", x.leave(0, 0), Due.STATE);
        Due.kept(x, 0, 0, 1, 2, 1);
        Due.due("another", x.leave(0, 1), 0);
        x.deliver(0, 3);
        Due.due("still", x.leave(0, 0), Due.STATE);
        x.deliver(0, 3);
        Due.due("DONE", x.leave(0, 0), 1);
    }

    private static void times() {
        Due.promise(19);
        OnceOnly x = new OnceOnly(8);
        for (int id : IDS) Due.due("times(" + id + ")", x.times(id), Due.BAD);
        int[] kinds = {Due.ADD, Due.ADD, Due.READ, Due.MOVE, Due.MOVE, Due.FAR, Due.FAR, Due.CANCEL};
        int[] amounts = {10, -11, 0, 4, 7, 7, 6, 100};
        int[] due = {1, 0, 0, 1, 0, 0, 1, 0};
        for (int i = 0; i < 8; i++) x.ask(0, 0, kinds[i], 0, 1, 2, amounts[i]);
        for (int i = 0; i < 8; i++) Due.due("times(" + i + ") ahead", x.times(i), 0);
        for (int i = 0; i < 8; i++) x.twice(i);
        x.flow(16);
        for (int i = 0; i < 8; i++) Due.due("times(" + i + ")", x.times(i), due[i]);
        Due.due("the own ASK", x.times(8), 0);
        x.flow(200);
        Due.due("the own ASK", x.times(8), 1);
        Due.due("the FAR", x.times(6), 1);
        Due.due("no more ASKS", x.times(9), Due.BAD);
    }

    private static void sums(OnceOnly x, long accounts, long underWay, long adds) {
        Due.due("audit(0)", x.audit(0), accounts);
        Due.due("audit(1)", x.audit(1), underWay);
        Due.due("audit(2)", x.audit(2), adds);
    }

    private static void audit() {
        Due.promise(20);
        OnceOnly x = Due.withFar(1);
        Due.due("audit(-1)", x.audit(-1), Due.BAD);
        Due.due("audit(3)", x.audit(3), Due.BAD);
        sums(x, 100, 0, 100);
        x.deliver(0, 3);
        sums(x, 70, 30, 100);
        x.ask(1, 2, Due.ADD, 5, 0, 0, 1000000);
        sums(x, 70, 30, 100);
        x.flow(1);
        sums(x, 100, 0, 100);
        x.flow(200);
        sums(x, 1000100, 0, 1000100);
        x.ask(1, 2, Due.ADD, 5, 0, 0, -400000);
        x.ask(1, 2, Due.ADD, 5, 0, 0, -600001);
        x.ask(1, 2, Due.MOVE, 5, 0, 0, 600000);
        x.flow(200);
        sums(x, 600100, 0, 600100);
        x.ask(1, 2, Due.FAR, 0, 0, 0, 600000);
        x.ask(1, 0, Due.FAR, 0, 0, 0, 70);
        x.flow(2);
        sums(x, 30, 600070, 600100);
        x.flow(200);
        sums(x, 600100, 0, 600100);
    }

    private static void witnessAndCheck() {
        Due.promise(21);
        OnceOnly x = new OnceOnly(8);
        for (int id : IDS) Due.due("witness(" + id + ")", x.witness(id), Due.BAD);
        x.ask(4, 2, Due.ADD, 1, 0, 0, 999);
        Due.due("OPEN", x.witness(0), Due.STATE);
        x.flow(2);
        long h = 17;
        for (long v : new long[] {4, 1, 1, 2, 1, 999}) h = 31 * h + v;
        Due.due("witness(0)", x.witness(0), h);
        x.ask(4, 2, Due.ADD, 1, 0, 0, -1000);
        x.flow(2);
        h = 17;
        for (long v : new long[] {4, 1, 2, 2, 1, -1}) h = 31 * h + v;
        Due.due("witness(1)", x.witness(1), h);
        x.ask(4, 2, Due.READ, 0, 0, 0, 0);
        x.fall(4);
        x.rise(4);
        Due.due("OVER", x.witness(2), Due.STATE);
        Due.promise(22);
        for (int id : new int[] {-1, 3, 300}) Due.due("check(" + id + ")", x.check(id, h), Due.BAD);
        Due.due("check(1)", x.check(1, h), 1);
        Due.due("check(1)", x.check(1, h + 1), 0);
        Due.due("check(1)", x.check(1, h + (1L << 32)), 0);
        Due.due("check(0)", x.check(0, h), 0);
        Due.due("check(0)", x.check(0, x.witness(0)), 1);
        Due.due("check of one that is OVER", x.check(2, Due.STATE), 0);
        x.ask(4, 2, Due.READ, 0, 0, 0, 0);
        Due.due("check of an OPEN one", x.check(3, x.witness(3)), 0);
        h = 17;
        for (long v : new long[] {4, 2, 1, 2, 0, 0}) h = 31 * h + v;
        Due.due("of what it would be", x.check(3, h), 0);
        x.flow(200);
        Due.due("of what it is", x.check(3, h), 1);
    }

    private static void count() {
        Due.promise(23);
        OnceOnly x = new OnceOnly(5);
        Due.due("count(-1)", x.count(-1), Due.BAD);
        Due.due("count(8)", x.count(8), Due.BAD);
        x.ask(0, 0, Due.ADD, 0, 0, 0, 10);
        Due.due("OPEN", x.count(1), 1);
        x.flow(200);
        Due.due("none is OPEN", x.count(1), 0);
        x.ask(0, 0, Due.FAR, 0, 0, 3, 10);
        x.deliver(0, 3);
        x.ask(1, 2, Due.CANCEL, 0, 0, 0, 2);
        x.deliver(1, 3);
        x.lose(1);
        x.fall(4);
        int[] due = {4, 3, 1, 4, 1, 1, 3, 5};
        for (int what = 0; what < 8; what++) Due.due("count(" + what + ")", x.count(what), due[what]);
    }
}
