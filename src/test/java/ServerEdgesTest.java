/** The sentences of the Terms, 3 A SERVER, that name a boundary, one after another. */
public final class ServerEdgesTest {
    private ServerEdgesTest() {
    }

    public static void main(String[] args) {
        atFirst();
        lesserLives();
        lesserLivesOfAllKinds();
        greaterLives();
        greaterLifeThenLow();
        leavesOfLivesAhead();
        lowIsRaised();
        lowIsNotLessened();
        belowLow();
        lowKeepsRecords();
        recordsOfAllKinds();
        recordIsFirst();
        readsHaveNoRecord();
        cancelOfOwnNumber();
        cancelBelowLow();
        cancelOfDone();
        cancelOfMidst();
        cancelOfLowAndW();
        cancelOfCancelled();
        cancelTwice();
        ownAnswerOnce();
        ownAnswerWithoutRecord();
        ownAnswerOfAnotherLife();
        whatAHasThen();
        answersToAskers();
        oversToAskers();
        Due.end("ServerEdgesTest");
    }

    private static void atFirst() {
        Due.sentence("A SERVER has of each NAME a LIFE (0 at first), a LOW NUMBER (1 at first), and RECORDS by NUMBERS");
        OnceOnly x = new OnceOnly(4);
        for (int server = 0; server < 4; server++) {
            for (int name = 0; name < 10; name++) {
                Due.kept(x, server, name, 0, 1, 0);
                Due.due("record", x.record(server, name, 1), Due.NO_RECORD);
            }
        }
        x = new OnceOnly(4);
        x.ask(5, 3, Due.READ, 0, 0, 0, 0);
        Due.kept(x, 3, 5, 0, 1, 0);
        x.deliver(0, 3);
        Due.kept(x, 3, 5, 1, 1, 0);
        x.ask(5, 3, Due.ADD, 0, 0, 0, 0);
        x.deliver(1, 3);
        Due.kept(x, 3, 5, 1, 1, 1);
        Due.due("not NUMBER 1", x.record(3, 5, 1), Due.NO_RECORD);
        Due.due("NUMBER 2", x.record(3, 5, 2), Due.DONE);
        Due.kept(x, 3, 4, 0, 1, 0);
        Due.kept(x, 2, 5, 0, 1, 0);
    }

    /** Of LIVES 1 to 4 that the SERVER has, an ASK of LIFE 2. */
    private static void lesserLives() {
        Due.sentence("(a) The ASK's LIFE is less than the LIFE that it has: OVER is answered");
        for (int life = 0; life < 5; life++) {
            OnceOnly x = new OnceOnly(4);
            x.fall(0);
            x.rise(0);
            for (int i = 0; i < life; i++) Due.due("leave", x.leave(0, 0), 0);
            x.ask(0, 0, Due.ADD, 0, 0, 0, 5);
            Due.due("it comes", x.deliver(0, 3), 1);
            boolean over = life > 2;
            Due.due("OVER", x.letter(0, 4), over ? 1 : 0);
            Due.due("account", x.account(0, 0), over ? 0 : 5);
            Due.kept(x, 0, 0, Math.max(2, life), 1, over ? 0 : 1);
            Due.due("to the ASKER", x.deliver(0, 3), 0);
            Due.due("it is", x.told(0, 5), over ? Due.IS_OVER : Due.IS_ANSWERED);
            Due.due("answer", x.answer(0), over ? Due.STATE : 5);
            Due.due("times", x.times(0), over ? 0 : 1);
            Due.due("again", x.again(0), Due.STATE);
        }
    }

    private static void lesserLivesOfAllKinds() {
        Due.sentence("(a) The ASK's LIFE is less than the LIFE that it has: OVER is answered");
        for (int kind = 0; kind < 5; kind++) {
            OnceOnly x = Due.withMoney(4, 0, 10);
            x.ask(0, 0, kind, 0, 1, 1, 3);
            x.fall(0);
            x.rise(0);
            x.ask(0, 0, Due.READ, 0, 0, 0, 0);
            x.deliver(1, 3);
            Due.kept(x, 0, 0, 2, 1, 0);
            Due.due("an older one", x.deliver(0, 3), 1);
            Due.due(x, 1, 1, 1, Due.NONE, 0, 1);
            Due.kept(x, 0, 0, 2, 1, 0);
            Due.due("a", x.account(0, 0), 10);
            Due.due("count(0)", x.count(0), 3);
            Due.due("times", x.times(1), 0);
        }
    }

    private static void greaterLives() {
        Due.sentence("(If it is greater, first: that is the LIFE then, LOW is 1, there are no RECORDS of that NAME)");
        for (int more = 1; more < 4; more++) {
            OnceOnly x = new OnceOnly(3);
            for (int i = 0; i < 5; i++) Due.asks(x, Due.ADD, 0, 0, 1, i + 1);
            x.ask(1, 0, Due.ADD, 1, 0, 0, 1);
            x.flow(200);
            x.ask(0, 0, Due.CANCEL, 0, 0, 0, 8);
            x.deliver(0, 3);
            Due.kept(x, 0, 0, 1, 6, 2);
            for (int i = 0; i < more; i++) {
                x.fall(0);
                x.rise(0);
            }
            Due.kept(x, 0, 0, 1, 6, 2);
            x.ask(0, 0, Due.READ, 0, 0, 0, 0);
            Due.due("one of a greater LIFE", x.deliver(1, 3), 1);
            Due.kept(x, 0, 0, 1 + more, 1, 0);
            Due.due("CANCELLED", x.record(0, 0, 8), Due.NO_RECORD);
            Due.kept(x, 0, 1, 1, 1, 1);
            x.flow(200);
            Due.due("answer", x.answer(7), 5);
        }
    }

    /** The first LETTER of a new LIFE that comes to the SERVER has a LOWEST above 1. */
    private static void greaterLifeThenLow() {
        Due.sentence("If it is greater, first .. If LOWEST of the LETTER is above LOW, first: that is LOW then");
        OnceOnly x = new OnceOnly(2);
        for (int i = 0; i < 4; i++) Due.asks(x, Due.ADD, 0, 0, 1, i + 1);
        Due.kept(x, 0, 0, 1, 4, 1);
        x.fall(0);
        x.rise(0);
        for (int i = 0; i < 2; i++) x.ask(0, 1, Due.READ, 0, 0, 0, 0);
        x.flow(200);
        x.ask(0, 0, Due.ADD, 0, 0, 0, 1);
        Due.due("LOWEST", x.letter(0, 2), 3);
        Due.due("it comes", x.deliver(0, 3), 1);
        Due.kept(x, 0, 0, 2, 3, 1);
        Due.due("DONE", x.record(0, 0, 3), Due.DONE);
        Due.due("of the older LIFE", x.record(0, 0, 4), Due.NO_RECORD);
        Due.due("account", x.account(0, 0), 5);
    }

    private static void leavesOfLivesAhead() {
        Due.sentence("the LIFE that it has of it is 1 more, LOW is 1, there are no RECORDS");
        OnceOnly x = new OnceOnly(4);
        for (int i = 0; i < 4; i++) Due.asks(x, Due.ADD, 0, 0, 1, i + 1);
        Due.kept(x, 0, 0, 1, 4, 1);
        Due.due("leave", x.leave(0, 0), 1);
        Due.kept(x, 0, 0, 2, 1, 0);
        Due.due("leave again", x.leave(0, 0), 0);
        Due.kept(x, 0, 0, 3, 1, 0);
        x.fall(0);
        x.rise(0);
        x.ask(0, 0, Due.ADD, 0, 0, 0, 1);
        x.flow(200);
        Due.due("LIFE 2 is less", x.told(4, 5), Due.IS_OVER);
        x.fall(0);
        x.rise(0);
        x.ask(0, 0, Due.ADD, 0, 0, 0, 1);
        x.flow(200);
        Due.due("LIFE 3 is not", x.answer(5), 5);
        Due.kept(x, 0, 0, 3, 1, 1);
        Due.kept(x, 1, 0, 0, 1, 0);
    }

    /** For each w: RECORDS of NUMBERS 1 .. w, then a LETTER of each LOWEST from 1 to w + 1. */
    private static void lowIsRaised() {
        Due.sentence("If LOWEST of the LETTER is above LOW, first: that is LOW then, RECORDS of lesser NUMBERS are gone");
        for (int w = 2; w <= 16; w++) {
            for (int lowest = 1; lowest <= w + 1; lowest++) {
                OnceOnly x = new OnceOnly(w);
                for (int i = 0; i < w; i++) x.ask(0, 0, Due.ADD, 0, 0, 0, 1);
                for (int i = 0; i < w; i++) x.deliver(0, 3);
                Due.kept(x, 0, 0, 1, 1, w);
                x.flow(Math.max(1, lowest - 1));
                if (lowest == 1) continue;
                Due.name(x, 0, lowest, 1, w + 1);
                x.ask(0, 0, Due.ADD, 0, 0, 0, 1);
                Due.due("LOWEST", x.letter(x.count(2) - 1, 2), lowest);
                x.deliver(x.count(2) - 1, 3);
                Due.kept(x, 0, 0, 1, lowest, w + 2 - lowest);
                for (int number = 0; number <= w + 18; number++) {
                    boolean there = number >= lowest && number <= w + 1;
                    Due.due("record " + number, x.record(0, 0, number), there ? Due.DONE : Due.NO_RECORD);
                }
            }
        }
    }

    private static void lowIsNotLessened() {
        Due.sentence("If LOWEST of the LETTER is above LOW, first: that is LOW then");
        OnceOnly x = new OnceOnly(3);
        for (int i = 0; i < 3; i++) x.ask(0, 0, Due.ADD, 0, 0, 0, 1);
        x.twice(2);
        x.twice(2);
        x.deliver(0, 3);
        x.deliver(4, 3);
        x.again(1);
        // LETTERS: ASKS 1, 2, 2, 2 with LOWEST 1, ASK 1 with LOWEST 2.
        Due.due("of LOWEST 2", x.deliver(4, 3), 1);
        Due.kept(x, 0, 0, 1, 2, 1);
        Due.due("of LOWEST 1, below LOW", x.deliver(1, 3), 1);
        Due.kept(x, 0, 0, 1, 2, 2);
        Due.due("of LOWEST 1, again", x.deliver(0, 3), 1);
        Due.kept(x, 0, 0, 1, 2, 2);
        x.flow(200);
        Due.due("account", x.account(0, 0), 3);
    }

    private static void belowLow() {
        Due.sentence("(b) The NUMBER is below LOW: nothing");
        int[][] kinds = {{Due.READ, 0}, {Due.ADD, 5}, {Due.MOVE, 5}, {Due.FAR, 5}, {Due.CANCEL, 2}, {Due.ADD, -100}};
        for (int[] kind : kinds) {
            OnceOnly x = Due.withMoney(2, 0, 10);
            x.ask(0, 0, kind[0], 0, 1, 1, kind[1]);
            x.twice(0);
            x.twice(0);
            x.deliver(0, 3);
            Due.due("at LOW: it is answered", x.kept(0, 0, 1), 2);
            Due.due("at LOW, once more", x.deliver(0, 3), 1);
            for (int i = 0; i < 5 && x.told(1, 5) == Due.IS_OPEN; i++) x.deliver(1, 3);
            Due.due("ANSWERED", x.told(1, 5), Due.IS_ANSWERED);
            x.ask(0, 0, Due.READ, 0, 0, 0, 0);
            x.deliver(x.count(2) - 1, 3);
            long a = x.account(0, 0);
            int asks = x.count(0);
            int letters = x.count(2);
            Due.due("LOW", x.kept(0, 0, 1), 3);
            Due.due("one below LOW", x.deliver(0, 3), 0);
            Due.due("nothing is sent", x.count(2), letters - 1);
            Due.due("nothing is done", x.account(0, 0), a);
            Due.due("nothing is asked", x.count(0), asks);
            Due.kept(x, 0, 0, 1, 3, 0);
        }
    }

    private static void lowKeepsRecords() {
        Due.sentence("that is LOW then, RECORDS of lesser NUMBERS are gone");
        OnceOnly x = new OnceOnly(16);
        x.ask(0, 0, Due.ADD, 0, 0, 0, 1);
        x.ask(0, 0, Due.CANCEL, 0, 0, 0, 16);
        x.ask(0, 0, Due.CANCEL, 0, 0, 0, 17);
        x.flow(200);
        Due.due("of LOW and 15", x.answer(1), 1);
        Due.due("of LOW and 16", x.answer(2), 3);
        Due.kept(x, 0, 0, 1, 1, 4);
        for (int number = 4; number < 16; number++) {
            Due.asks(x, Due.ADD, 0, 0, 1, number - 2);
            Due.kept(x, 0, 0, 1, number, 2);
        }
        Due.asks(x, Due.ADD, 0, 0, 1, -2);
        Due.kept(x, 0, 0, 1, 16, 1);
        Due.asks(x, Due.ADD, 0, 0, 1, 14);
        Due.kept(x, 0, 0, 1, 17, 1);
        Due.due("16 is gone", x.record(0, 0, 16), Due.NO_RECORD);
    }

    private static void recordsOfAllKinds() {
        Due.sentence("(c) There is a RECORD: DONE: that ANSWER is answered");
        int[][] kinds = {{Due.ADD, 0, 5, 15}, {Due.ADD, 0, -11, -1}, {Due.MOVE, 1, 4, 6}, {Due.MOVE, 1, 11, -1},
            {Due.MOVE, 0, 11, 10}, {Due.FAR, 1, 11, -1}, {Due.CANCEL, 0, 1, 0}, {Due.CANCEL, 0, 2, 0},
            {Due.CANCEL, 0, 5, 1}, {Due.CANCEL, 0, 6, 3}};
        for (int[] kind : kinds) {
            OnceOnly x = Due.withMoney(4, 0, 10);
            x.ask(0, 0, kind[0], 0, kind[1], 1, kind[2]);
            x.deliver(0, 3);
            x.lose(0);
            long a = x.account(0, 0);
            // What it had ahead is changed, so that what is done anew would be answered otherwise.
            x.ask(1, 0, Due.ADD, 0, 0, 0, 1000);
            x.flow(200);
            for (int i = 0; i < 3; i++) {
                x.again(1);
                Due.due("it comes again", x.deliver(0, 3), 1);
                if (i < 2) x.lose(0);
            }
            x.flow(200);
            Due.due("kind " + kind[0] + ", amount " + kind[2], x.answer(1), kind[3]);
            Due.due("account", x.account(0, 0), a + 1000);
        }
    }

    /** CANCELLED ahead of it, an ASK of each KIND is answered -2, and not done. */
    private static void recordIsFirst() {
        Due.sentence("(c) There is a RECORD: .. CANCELLED: -2 is answered");
        for (int kind = 0; kind < 5; kind++) {
            OnceOnly x = Due.withMoney(4, 0, 10);
            x.ask(0, 0, kind, 0, 1, 1, 4);
            x.ask(0, 0, Due.CANCEL, 0, 0, 0, 2);
            x.deliver(1, 3);
            x.deliver(1, 3);
            Due.due("CANCELLED", x.answer(2), 1);
            for (int i = 0; i < 2; i++) {
                x.twice(0);
                Due.due("it comes", x.deliver(0, 3), 1);
            }
            x.lose(0);
            x.flow(200);
            Due.due("answer", x.answer(1), -2);
            Due.due("times", x.times(1), 0);
            Due.due("a", x.account(0, 0), 10);
            Due.due("no own ASK", x.count(0), 3);
            Due.due("the RECORD stays", x.record(0, 0, 2), Due.CANCELLED);
            Due.kept(x, 0, 0, 1, 2, 2);
        }
    }

    private static void readsHaveNoRecord() {
        Due.sentence("(d) READ: it is answered");
        OnceOnly x = new OnceOnly(4);
        x.ask(0, 0, Due.READ, 0, 0, 0, 0);
        for (int i = 0; i < 3; i++) {
            x.again(0);
            x.ask(1, 0, Due.ADD, 0, 0, 0, 1);
            x.deliver(x.count(2) - 1, 3);
            x.deliver(x.count(2) - 1, 3);
            Due.due("it is read", x.deliver(x.count(2) - 1, 3), 1);
            Due.due("without a RECORD", x.record(0, 0, 1), Due.NO_RECORD);
            if (i < 2) x.lose(x.count(2) - 1);
        }
        x.deliver(x.count(2) - 1, 3);
        Due.due("what a has as it is read", x.answer(0), 3);
        Due.kept(x, 0, 0, 1, 1, 0);
    }

    private static void cancelOfOwnNumber() {
        Due.sentence("CANCEL: of its own NUMBER .. ANSWER 0");
        for (int w = 1; w <= 16; w++) {
            OnceOnly x = new OnceOnly(w);
            for (int i = 1; i < w; i++) x.ask(0, 0, Due.READ, 0, 0, 0, 0);
            x.ask(0, 0, Due.CANCEL, 0, 0, 0, w);
            Due.due("of LOW and w - 1, itself", x.deliver(w - 1, 3), 1);
            Due.due("DONE", x.record(0, 0, w), Due.DONE);
            Due.kept(x, 0, 0, 1, 1, 1);
            x.deliver(w - 1, 3);
            Due.due("answer", x.answer(w - 1), 0);
            Due.due("times", x.times(w - 1), 0);
        }
    }

    private static void cancelBelowLow() {
        Due.sentence("CANCEL: .. of one below LOW .. ANSWER 0");
        OnceOnly x = new OnceOnly(4);
        for (int i = 0; i < 3; i++) Due.asks(x, Due.READ, 0, 0, 0, 0);
        x.ask(0, 1, Due.READ, 0, 0, 0, 0);
        for (int number = 1; number < 4; number++) {
            x.ask(0, 0, Due.CANCEL, 0, 0, 0, number);
            x.deliver(1, 3);
            x.deliver(1, 3);
            Due.due("of " + number + ", below LOW 4", x.answer(3 + number), 0);
            Due.due("no RECORD", x.record(0, 0, number), Due.NO_RECORD);
            Due.kept(x, 0, 0, 1, 4, number);
        }
        x = new OnceOnly(4);
        for (int i = 0; i < 3; i++) Due.asks(x, Due.READ, 0, 0, 0, 0);
        x.ask(0, 1, Due.READ, 0, 0, 0, 0);
        x.ask(0, 0, Due.CANCEL, 0, 0, 0, 4);
        x.deliver(1, 3);
        Due.due("of LOW", x.record(0, 0, 4), Due.CANCELLED);
        x.deliver(1, 3);
        Due.due("answer", x.answer(4), 1);
        x.flow(200);
        Due.due("SERVER 1 knows nothing of it", x.answer(3), 0);
    }

    private static void cancelOfDone() {
        Due.sentence("CANCEL: .. or DONE: ANSWER 0");
        int[][] kinds = {{Due.ADD, 1}, {Due.ADD, -1}, {Due.MOVE, 0}, {Due.MOVE, 1}, {Due.FAR, 1}, {Due.FAR, 0},
            {Due.CANCEL, 9}};
        for (int[] kind : kinds) {
            OnceOnly x = new OnceOnly(8);
            x.ask(0, 1, Due.READ, 0, 0, 0, 0);
            x.ask(0, 0, kind[0], 0, 1, 1, kind[1]);
            for (int i = 0; i < 4 && x.count(2) > 1; i++) x.deliver(1, 3);
            Due.due("ANSWERED", x.told(1, 5), Due.IS_ANSWERED);
            Due.due("DONE", x.record(0, 0, 2), Due.DONE);
            int cancel = x.ask(0, 0, Due.CANCEL, 0, 0, 0, 2);
            x.deliver(1, 3);
            x.deliver(1, 3);
            Due.due("kind " + kind[0], x.answer(cancel), 0);
            Due.due("still DONE", x.record(0, 0, 2), Due.DONE);
            Due.kept(x, 0, 0, 1, 1, 2);
        }
    }

    private static void cancelOfMidst() {
        Due.sentence("CANCEL: .. MIDST: 2");
        OnceOnly x = Due.withFar(1);
        x.deliver(0, 3);
        x.ask(0, 0, Due.CANCEL, 0, 0, 0, 2);
        x.deliver(1, 3);
        Due.due("MIDST", x.record(0, 0, 2), Due.MIDST);
        Due.kept(x, 0, 0, 1, 2, 2);
        x.flow(200);
        Due.due("the CANCEL", x.answer(3), 2);
        Due.due("the FAR is not CANCELLED", x.answer(1), 70);
        Due.due("DONE", x.record(0, 0, 2), Due.DONE);
        Due.due("b", x.account(1, 2), 30);
        x = Due.withFar(1);
        x.ask(0, 0, Due.CANCEL, 0, 0, 0, 2);
        x.deliver(1, 3);
        Due.due("CANCELLED ahead of it", x.record(0, 0, 2), Due.CANCELLED);
        Due.due("it comes", x.deliver(0, 3), 1);
        Due.due("no own ASK", x.count(0), 3);
        x.flow(200);
        Due.due("the FAR", x.answer(1), -2);
        Due.due("a", x.account(0, 0), 100);
    }

    private static void cancelOfLowAndW() {
        Due.sentence("CANCEL: .. of LOW and w or more: 3; else 1, and that NUMBER has a RECORD CANCELLED");
        for (int w = 1; w <= 16; w++) {
            for (int low = 1; low < 4; low++) {
                int[] numbers = {low, low + w - 2, low + w - 1, low + w, low + w + 1, low + 16, low + 32, 1000000};
                for (int number : numbers) {
                    if (number >= low) cancelsOf(w, low, number);
                }
            }
        }
    }

    /** CANCEL of a NUMBER not below LOW, which is the CANCEL's own NUMBER. */
    private static void cancelsOf(int w, int low, int number) {
        OnceOnly x = new OnceOnly(w);
        for (int i = 1; i < low; i++) Due.asks(x, Due.READ, 0, 0, 0, 0);
        boolean own = number == low;
        boolean within = number < low + w;
        Due.asks(x, Due.CANCEL, 0, 0, number, own ? 0 : within ? 1 : 3);
        Due.kept(x, 0, 0, 1, low, within && !own ? 2 : 1);
        Due.due("the RECORD of " + low, x.record(0, 0, low), Due.DONE);
        int due = own ? Due.DONE : within ? Due.CANCELLED : Due.NO_RECORD;
        Due.due("w " + w + ", the RECORD of " + number, x.record(0, 0, number), due);
        // The ASK of the next NUMBER is done or not, as that one was.
        Due.asks(x, Due.ADD, 0, 0, 1, number == low + 1 && within ? -2 : 1);
    }

    private static void cancelOfCancelled() {
        Due.sentence("CANCEL: .. else 1, and that NUMBER has a RECORD CANCELLED");
        OnceOnly x = new OnceOnly(8);
        x.ask(0, 0, Due.ADD, 0, 0, 0, 5);
        for (int i = 0; i < 3; i++) x.ask(0, 0, Due.CANCEL, 0, 0, 0, 1);
        for (int i = 0; i < 3; i++) {
            x.deliver(1, 3);
            Due.due("CANCELLED", x.record(0, 0, 1), Due.CANCELLED);
            Due.kept(x, 0, 0, 1, 1, 2 + i);
        }
        x.flow(200);
        for (int i = 1; i < 4; i++) Due.due("answer", x.answer(i), 1);
        Due.due("answer", x.answer(0), -2);
    }

    /** A CANCEL that is CANCELLED does nothing: what it was of is done. */
    private static void cancelTwice() {
        Due.sentence("(c) There is a RECORD: .. CANCELLED: -2 is answered");
        OnceOnly x = new OnceOnly(8);
        x.ask(0, 0, Due.ADD, 0, 0, 0, 5);
        x.ask(0, 0, Due.CANCEL, 0, 0, 0, 1);
        x.ask(0, 0, Due.CANCEL, 0, 0, 0, 2);
        x.deliver(2, 3);
        x.deliver(1, 3);
        x.deliver(0, 3);
        x.flow(200);
        Due.due("the ADD", x.answer(0), 5);
        Due.due("its CANCEL", x.answer(1), -2);
        Due.due("the CANCEL's", x.answer(2), 1);
        Due.kept(x, 0, 0, 1, 1, 3);
    }

    private static void ownAnswerOnce() {
        Due.sentence("When an ANSWER's LETTER comes to a SERVER, whose own ASK is OPEN: that is ANSWERED");
        OnceOnly x = Due.withFar(1);
        x.deliver(0, 3);
        x.deliver(0, 3);
        x.twice(0);
        x.twice(0);
        Due.due("its own ASK is OPEN", x.deliver(0, 3), 1);
        Due.due("it is not", x.deliver(0, 3), 0);
        x.flow(2);
        Due.due("answer", x.answer(1), 70);
        Due.due("no LETTER", x.count(2), 0);
        Due.due("the own ASK's", x.answer(2), 30);
        Due.due("again", x.again(2), Due.STATE);
    }

    private static void ownAnswerWithoutRecord() {
        Due.sentence("if the RECORD for which it was made is there and MIDST");
        OnceOnly x = Due.withFar(1);
        x.deliver(0, 3);
        x.fall(0);
        x.rise(0);
        x.ask(0, 0, Due.READ, 0, 0, 0, 0);
        x.deliver(1, 3);
        Due.due("gone with its LIFE", x.record(0, 0, 2), Due.NO_RECORD);
        x.deliver(0, 3);
        Due.due("its ANSWER", x.deliver(1, 3), 0);
        Due.due("ANSWERED", x.answer(2), 30);
        Due.kept(x, 0, 0, 2, 1, 0);
        Due.due("b", x.account(1, 2), 30);
        Due.due("under way", x.audit(1), 0);
        x.flow(200);
        Due.due("the FAR is OVER", x.told(1, 5), Due.IS_OVER);
        Due.due("but was done", x.times(1), 1);
    }

    private static void ownAnswerOfAnotherLife() {
        Due.sentence("if the RECORD for which it was made is there and MIDST");
        OnceOnly x = Due.withMoney(2, 0, 100);
        x.fall(0);
        x.rise(0);
        x.ask(0, 0, Due.FAR, 0, 2, 1, 30);
        x.deliver(0, 3);
        x.fall(0);
        x.rise(0);
        x.ask(0, 0, Due.FAR, 0, 2, 1, 20);
        x.deliver(1, 3);
        Due.due("MIDST by the same NUMBER", x.record(0, 0, 1), Due.MIDST);
        Due.due("the older own ASK", x.deliver(0, 3), 1);
        Due.due("its ANSWER", x.deliver(1, 3), 0);
        Due.due("the older own ASK", x.told(2, 5), Due.IS_ANSWERED);
        Due.due("MIDST yet", x.record(0, 0, 1), Due.MIDST);
        x.flow(200);
        Due.due("answer", x.answer(3), 50);
        Due.due("b", x.account(1, 2), 50);
    }

    private static void whatAHasThen() {
        Due.sentence("it is DONE, with what a has then, which is answered");
        OnceOnly x = Due.withFar(1);
        x.deliver(0, 3);
        x.deliver(0, 3);
        x.ask(1, 0, Due.ADD, 0, 0, 0, 7);
        x.deliver(1, 3);
        x.twice(0);
        x.deliver(0, 3);
        x.ask(2, 0, Due.ADD, 0, 0, 0, 8);
        x.flow(200);
        Due.due("as its own ASK is ANSWERED", x.answer(1), 77);
        Due.due("account", x.account(0, 0), 85);
    }

    private static void answersToAskers() {
        Due.sentence("Comes it to an ASKER, and the ASK is OPEN: it is ANSWERED (If the ASK is not OPEN: nothing.)");
        OnceOnly x = new OnceOnly(4);
        x.ask(0, 0, Due.READ, 0, 0, 0, 0);
        x.twice(0);
        x.deliver(0, 3);
        x.ask(1, 0, Due.ADD, 0, 0, 0, 5);
        x.deliver(2, 3);
        x.deliver(0, 3);
        // LETTERS: the READ's ANSWER 0, the ADD's, the READ's ANSWER 5.
        Due.due("the first that comes", x.deliver(2, 3), 0);
        Due.due("answer", x.answer(0), 5);
        Due.due("the other", x.deliver(0, 3), 0);
        Due.due("answer", x.answer(0), 5);
        x.ask(0, 0, Due.READ, 0, 0, 0, 0);
        x.deliver(1, 3);
        x.fall(0);
        x.rise(0);
        Due.due("to one that is OVER", x.deliver(1, 3), 0);
        Due.due("it is OVER yet", x.told(2, 5), Due.IS_OVER);
        Due.due("answer", x.answer(2), Due.STATE);
        x.ask(0, 0, Due.READ, 0, 0, 0, 0);
        x.flow(200);
        Due.due("the new LIFE's", x.answer(3), 5);
    }

    private static void oversToAskers() {
        Due.sentence("it is ANSWERED, or, by OVER, it is OVER. (If the ASK is not OPEN: nothing.)");
        OnceOnly x = new OnceOnly(4);
        x.ask(0, 0, Due.ADD, 0, 0, 0, 5);
        x.twice(0);
        x.deliver(0, 3);
        x.leave(0, 0);
        x.deliver(0, 3);
        x.twice(1);
        Due.due("an OVER", x.letter(1, 4), 1);
        Due.due("an ANSWER", x.letter(0, 4), 0);
        x.deliver(0, 3);
        Due.due("answer", x.answer(0), 5);
        x.deliver(0, 3);
        Due.due("OVER comes to an ANSWERED one", x.told(0, 5), Due.IS_ANSWERED);
        x = new OnceOnly(4);
        x.ask(0, 0, Due.ADD, 0, 0, 0, 5);
        x.twice(0);
        x.deliver(0, 3);
        x.leave(0, 0);
        x.deliver(0, 3);
        x.deliver(1, 3);
        Due.due("OVER", x.told(0, 5), Due.IS_OVER);
        x.deliver(0, 3);
        Due.due("an ANSWER comes to one that is OVER", x.told(0, 5), Due.IS_OVER);
        Due.due("answer", x.answer(0), Due.STATE);
        Due.due("times", x.times(0), 1);
    }
}
