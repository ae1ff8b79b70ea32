/** The sentences of the Terms, 2 LETTERS, and of the MOMENTS, that name a boundary, one after another. */
public final class LettersEdgesTest {
    private LettersEdgesTest() {
    }

    public static void main(String[] args) {
        rowOf120();
        rowOf120InDeliver();
        rowOf120OfFars();
        newOnesComeBehind();
        newOnesAreWhole();
        doublesAreWhole();
        lowestAsItIsSent();
        lowestOfOwnAsks();
        answersHaveNoLowest();
        endsThatAreNotUp();
        bentOnesDoNothing();
        windows();
        windowsOfNames();
        windowOfNewLife();
        momentsOfKinds();
        momentsOfRecords();
        momentsOfReminders();
        momentOneOfNewLife();
        momentOneOfLow();
        momentOneOfOlderLife();
        momentOneOfOwnAsks();
        momentTwoIsWritten();
        noFallOfWhatIsDown();
        bentOnesFellTheEnd();
        risenServers();
        risenAskers();
        fallenDoNothing();
        Due.end("LettersEdgesTest");
    }

    private static void rowOf120() {
        Due.sentence("LETTERS, 120 at most, are under way in a row .. A LETTER that finds no room is lost");
        OnceOnly x = Due.withLetters(119);
        Due.due("the last with room", x.ask(1, 0, Due.ADD, 0, 0, 0, 1), 1);
        Due.due("count(2)", x.count(2), 120);
        Due.due("count(4)", x.count(4), 0);
        for (int i = 0; i < 3; i++) {
            Due.due("one without", x.ask(2 + i, 0, Due.ADD, 0, 0, 0, 1), 2 + i);
            Due.due("count(2)", x.count(2), 120);
            Due.due("count(4)", x.count(4), 1 + i);
        }
        Due.due("the last LETTER", x.letter(119, 0), 1);
        Due.due("no LETTER", x.letter(120, 0), Due.NONE);
        Due.due("it is OPEN all the same", x.told(4, 5), Due.IS_OPEN);
        Due.due("again", x.again(4), Due.FULL);
        Due.due("twice", x.twice(119), Due.FULL);
        Due.due("lose", x.lose(0), 119);
        Due.due("again", x.again(4), 120);
        Due.due("again", x.again(4), Due.FULL);
        Due.due("the last LETTER", x.letter(119, 0), 4);
        Due.due("the one ahead of it", x.letter(118, 0), 1);
        Due.due("count(4)", x.count(4), 4);
    }

    private static void rowOf120InDeliver() {
        Due.sentence("LETTERS, 120 at most, are under way in a row; new ones come behind");
        OnceOnly x = Due.withLetters(120);
        for (int i = 0; i < 120; i++) {
            if (x.deliver(0, 3) != 1) Due.due("deliver " + i, -1, 1);
        }
        Due.due("all are ANSWERS", x.count(2), 120);
        Due.due("the first is", x.letter(0, 1), 1);
        Due.due("the last is", x.letter(119, 1), 1);
        Due.due("none is lost", x.count(4), 0);
        Due.due("all come", x.flow(200), 120);
        Due.due("none is there", x.count(2), 0);
        Due.due("none is there", x.flow(200), 0);
        Due.due("count(3)", x.count(3), 240);
        Due.due("done once", x.account(0, 0), 7);
    }

    private static void rowOf120OfFars() {
        Due.sentence("LETTERS, 120 at most, are under way in a row; new ones come behind");
        OnceOnly x = Due.withFar(1);
        for (int i = 1; i < 120; i++) x.twice(0);
        Due.due("count(2)", x.count(2), 120);
        Due.due("the FAR comes", x.deliver(60, 3), 1);
        Due.due(x, 119, 2, 0, 1, 0, 0);
        Due.due("MIDST", x.deliver(0, 3), 1);
        Due.due(x, 118, 2, 0, 1, 0, 0);
        Due.due(x, 119, 2, 0, 1, 0, 0);
        Due.due("its own ASK", x.deliver(119, 3), 1);
        Due.due("its ANSWER", x.deliver(119, 3), 1);
        Due.due(x, 119, 1, 1, Due.NONE, 0, 0);
        Due.due("DONE", x.deliver(0, 3), 1);
        Due.due(x, 119, 1, 1, Due.NONE, 0, 0);
        Due.due("count(2)", x.count(2), 120);
        Due.due("count(4)", x.count(4), 0);
    }

    private static void newOnesComeBehind() {
        Due.sentence("LETTERS .. are under way in a row; new ones come behind");
        OnceOnly x = new OnceOnly(4);
        for (int asker = 0; asker < 3; asker++) x.ask(asker, 0, Due.ADD, asker, 0, 0, 1);
        int[][] rows = {{0, 1, 2}, {0, 1, 2, 0}, {0, 1, 2, 0, 1}, {1, 2, 0, 1}, {1, 2, 1}, {2, 1, 1}, {2, 1}};
        for (int step = 0; step < rows.length; step++) {
            switch (step) {
                case 1: Due.due("again(0)", x.again(0), 4); break;
                case 2: Due.due("twice(1)", x.twice(1), 5); break;
                case 3: Due.due("lose(0)", x.lose(0), 4); break;
                case 4: Due.due("lose(2)", x.lose(2), 3); break;
                case 5: Due.due("deliver(0, 3)", x.deliver(0, 3), 1); break;
                case 6: Due.due("lose(2)", x.lose(2), 2); break;
                default: break;
            }
            for (int i = 0; i < rows[step].length; i++) {
                Due.due("step " + step + ", letter(" + i + ", 0)", x.letter(i, 0), rows[step][i]);
            }
            Due.due("behind the last", x.letter(rows[step].length, 0), Due.NONE);
        }
        Due.due("an ASK's", x.letter(1, 1), 0);
    }

    /** As many LETTERS as a row can hold were BENT, and ANSWERS that are OVER: none that is sent later is. */
    private static void newOnesAreWhole() {
        Due.sentence("An ASK's LETTER has its ASK, and LOWEST .. An ANSWER's LETTER has its ASK, and an ANSWER or OVER");
        OnceOnly x = new OnceOnly(1);
        x.leave(0, 0);
        x.leave(0, 0);
        x.ask(0, 0, Due.ADD, 0, 0, 0, 1);
        x.ask(1, 0, Due.ADD, 0, 0, 0, 5);
        x.twice(0);
        x.deliver(0, 3);
        x.lose(1);
        Due.due(x, 1, 0, 1, Due.NONE, 0, 1);
        Due.due("it is BENT", x.bend(1), 1);
        for (int i = 2; i < 120; i++) x.twice(1);
        Due.due("count(2)", x.count(2), 120);
        for (int i = 1; i < 120; i++) x.lose(1);
        Due.due("one is left", x.count(2), 1);
        for (int i = 0; i < 10; i++) {
            Due.due("again", x.again(1), 2);
            Due.due(x, 1, 1, 0, 1, 0, 0);
            Due.due("it comes", x.deliver(1, 3), 1);
            Due.due(x, 1, 1, 1, Due.NONE, 0, 0);
            x.lose(1);
        }
        Due.due("done once", x.account(0, 0), 5);
        x.again(0);
        x.deliver(1, 3);
        Due.due(x, 1, 0, 1, Due.NONE, 0, 1);
    }

    private static void doublesAreWhole() {
        Due.sentence("Another one just like LETTER i comes behind");
        OnceOnly x = Due.withMoney(2, 0, 100);
        x.ask(0, 0, Due.MOVE, 0, 1, 0, 30);
        x.deliver(0, 3);
        x.twice(0);
        x.lose(0);
        Due.due("the double of an ANSWER's", x.deliver(0, 3), 0);
        Due.due("brings that ANSWER", x.answer(1), 70);
        x.ask(0, 0, Due.FAR, 0, 0, 1, 20);
        x.twice(0);
        x.lose(0);
        Due.due("the double of a FAR's", x.deliver(0, 3), 1);
        x.deliver(0, 3);
        x.twice(0);
        x.lose(0);
        Due.due("the double of an ANSWER's to a SERVER", x.deliver(0, 3), 1);
        Due.due("brings that ANSWER", x.answer(3), 20);
        x.leave(0, 0);
        x.again(2);
        x.deliver(1, 3);
        x.twice(1);
        x.lose(0);
        x.lose(0);
        Due.due(x, 0, 2, 1, Due.NONE, 0, 1);
        x.deliver(0, 3);
        Due.due("the double of an OVER", x.told(2, 5), Due.IS_OVER);
    }

    private static void lowestAsItIsSent() {
        Due.sentence("An ASK's LETTER has its ASK, and LOWEST of its NAME as it is sent");
        OnceOnly x = new OnceOnly(3);
        x.ask(0, 0, Due.ADD, 0, 0, 0, 1);
        x.ask(0, 0, Due.ADD, 0, 0, 0, 1);
        Due.due(x, 0, 0, 0, 1, 0, 0);
        Due.due(x, 1, 1, 0, 1, 0, 0);
        x.deliver(0, 3);
        x.deliver(1, 3);
        Due.due(x, 0, 1, 0, 1, 0, 0);
        x.again(1);
        x.twice(0);
        x.ask(0, 0, Due.ADD, 0, 0, 0, 1);
        Due.due(x, 1, 1, 0, 2, 0, 0);
        Due.due(x, 2, 1, 0, 1, 0, 0);
        Due.due(x, 3, 2, 0, 2, 0, 0);
        Due.due("an early one comes", x.deliver(0, 3), 1);
        Due.kept(x, 0, 0, 1, 1, 2);
        Due.due("a later one comes", x.deliver(0, 3), 1);
        Due.kept(x, 0, 0, 1, 2, 1);
        Due.due("an early one comes behind it", x.deliver(0, 3), 1);
        Due.kept(x, 0, 0, 1, 2, 1);
        x.flow(200);
        Due.due("each done once", x.account(0, 0), 3);
        x.ask(0, 0, Due.ADD, 0, 0, 0, 1);
        Due.due(x, 0, 3, 0, 4, 0, 0);
        x.fall(0);
        x.rise(0);
        Due.due(x, 0, 3, 0, 4, 0, 0);
        x.ask(0, 0, Due.ADD, 0, 0, 0, 1);
        Due.due(x, 1, 4, 0, 1, 0, 0);
    }

    private static void lowestOfOwnAsks() {
        Due.sentence("An ASK's LETTER has its ASK, and LOWEST of its NAME as it is sent");
        OnceOnly x = new OnceOnly(4);
        for (int i = 0; i < 3; i++) x.ask(i, 0, Due.FAR, 0, 0, 1, 0);
        x.deliver(0, 3);
        x.deliver(0, 3);
        Due.due(x, 1, 3, 0, 1, 0, 0);
        Due.due(x, 2, 4, 0, 1, 0, 0);
        x.deliver(1, 3);
        x.deliver(2, 3);
        Due.due("the third FAR comes", x.deliver(0, 3), 1);
        Due.due(x, 2, 5, 0, 2, 0, 0);
        Due.due("the second is reminded of", x.again(1), 4);
        Due.due("MIDST", x.deliver(3, 3), 1);
        Due.due(x, 3, 4, 0, 2, 0, 0);
        Due.kept(x, 1, 6, 1, 1, 1);
        x.deliver(3, 3);
        Due.kept(x, 1, 6, 1, 2, 1);
    }

    private static void answersHaveNoLowest() {
        Due.sentence("An ANSWER's LETTER has its ASK, and an ANSWER or OVER; it goes to the end that asked");
        OnceOnly x = new OnceOnly(4);
        x.leave(0, 1);
        x.leave(0, 1);
        x.ask(0, 0, Due.ADD, 0, 0, 0, 1);
        x.ask(1, 0, Due.ADD, 0, 0, 0, 1);
        x.ask(0, 0, Due.FAR, 0, 0, 1, 1);
        for (int i = 0; i < 3; i++) x.deliver(0, 3);
        Due.due(x, 0, 0, 1, Due.NONE, 0, 0);
        Due.due(x, 1, 1, 1, Due.NONE, 0, 1);
        Due.due(x, 2, 3, 0, 1, 0, 0);
        x.deliver(2, 3);
        Due.due(x, 2, 3, 1, Due.NONE, 0, 0);
        x.fall(1);
        x.fall(7);
        Due.due("SERVER 0 is up, and hears", x.deliver(2, 3), 1);
        Due.due("ASKER 1 is down", x.deliver(1, 3), 0);
        Due.due("it is OPEN", x.told(1, 5), Due.IS_OPEN);
        Due.due("ASKER 0 is up, and hears", x.flow(200), 2);
        Due.due("answer(0)", x.answer(0), 1);
        Due.due("answer(2)", x.answer(2), 0);
    }

    private static void endsThatAreNotUp() {
        Due.sentence("one that comes to an end that is not up, or that is BENT, does nothing");
        for (int moment = 0; moment < 4; moment++) {
            OnceOnly x = Due.withMoney(2, 0, 10);
            x.fall(0);
            x.rise(0);
            x.ask(0, 0, Due.ADD, 0, 0, 0, 5);
            x.fall(6);
            Due.due("one of a new LIFE", x.deliver(0, moment), 0);
            Due.kept(x, 0, 0, 1, 1, 1);
            x.rise(6);
            x.again(1);
            x.flow(200);
            Due.kept(x, 0, 0, 2, 1, 1);
            x.ask(0, 0, Due.ADD, 0, 0, 0, 5);
            x.fall(6);
            Due.due("one of a higher LOWEST", x.deliver(0, moment), 0);
            Due.kept(x, 0, 0, 2, 1, 1);
            x.rise(6);
            x.leave(0, 0);
            x.again(2);
            x.fall(6);
            Due.due("one of an older LIFE", x.deliver(0, moment), 0);
            Due.due("OVER is not answered", x.count(2), 0);
            x.rise(6);
            Due.due("account", x.account(0, 0), 15);
            Due.due("falls", x.count(5), 4);
        }
    }

    private static void bentOnesDoNothing() {
        Due.sentence("one that comes to an end that is not up, or that is BENT, does nothing");
        OnceOnly x = Due.withMoney(2, 0, 10);
        x.fall(0);
        x.rise(0);
        x.ask(0, 0, Due.ADD, 0, 0, 0, 5);
        x.bend(0);
        Due.due("one of a new LIFE", x.deliver(0, 3), 0);
        Due.kept(x, 0, 0, 1, 1, 1);
        x.again(1);
        x.flow(200);
        x.ask(0, 0, Due.FAR, 0, 0, 1, 5);
        x.bend(0);
        Due.due("a FAR", x.deliver(0, 3), 0);
        Due.kept(x, 0, 0, 2, 1, 1);
        Due.due("no own ASK", x.count(0), 3);
        x.again(2);
        x.deliver(0, 3);
        x.deliver(0, 3);
        x.bend(0);
        Due.due("an ANSWER to a SERVER", x.deliver(0, 3), 0);
        Due.due("still OPEN", x.told(3, 5), Due.IS_OPEN);
        Due.due("still MIDST", x.record(0, 0, 2), Due.MIDST);
        x.again(2);
        x.flow(3);
        x.bend(0);
        Due.due("an ANSWER to an ASKER", x.deliver(0, 3), 0);
        Due.due("still OPEN", x.told(2, 5), Due.IS_OPEN);
        x.again(2);
        x.flow(200);
        Due.due("answer", x.answer(2), 10);
        Due.due("no end fell but by fall()", x.count(5), 1);
    }

    /** For each w: w are let; one more when the lowest is ANSWERED, not when another is. */
    private static void windows() {
        Due.sentence("a NAME may not ask by a NUMBER of LOWEST and w, or more");
        for (int w = 1; w <= 16; w++) {
            OnceOnly x = new OnceOnly(w);
            for (int i = 0; i < w; i++) Due.due("one within", x.ask(0, 0, Due.ADD, 0, 0, 0, 1), i);
            Due.due("one more", x.ask(0, 0, Due.ADD, 0, 0, 0, 1), Due.FULL);
            for (int i = 1; i < w; i++) {
                x.deliver(1, 3);
                x.deliver(x.count(2) - 1, 3);
                Due.due("the lowest is OPEN", x.ask(0, 0, Due.ADD, 0, 0, 0, 1), Due.FULL);
            }
            Due.name(x, 0, 1, 1, w + 1);
            x.flow(2);
            Due.name(x, 0, w + 1, 1, w + 1);
            for (int i = 0; i < w; i++) Due.due("one within", x.ask(0, 0, Due.ADD, 0, 0, 0, 1), w + i);
            Due.due("one more", x.ask(0, 0, Due.ADD, 0, 0, 0, 1), Due.FULL);
            x.deliver(0, 3);
            Due.due("its ANSWER is under way", x.ask(0, 0, Due.ADD, 0, 0, 0, 1), Due.FULL);
            x.deliver(x.count(2) - 1, 3);
            Due.due("LOWEST is one more", x.ask(0, 0, Due.ADD, 0, 0, 0, 1), 2 * w);
            Due.due("and no more than that", x.ask(0, 0, Due.ADD, 0, 0, 0, 1), Due.FULL);
            Due.name(x, 0, w + 2, 1, 2 * w + 2);
        }
    }

    private static void windowsOfNames() {
        Due.sentence("a NAME may not ask by a NUMBER of LOWEST and w, or more");
        OnceOnly x = new OnceOnly(1);
        for (int asker = 0; asker < 6; asker++) {
            Due.due("each its own WINDOW", x.ask(asker, 0, Due.ADD, 0, 0, 0, 1), asker);
            Due.due("of SERVERS together", x.ask(asker, 1, Due.ADD, 0, 0, 0, 1), Due.FULL);
        }
        x = new OnceOnly(1);
        for (int i = 0; i < 4; i++) x.ask(i, i, Due.FAR, 0, 0, 0, 0);
        for (int i = 0; i < 4; i++) Due.due("each SERVER's own", x.deliver(0, 3), 1);
        for (int i = 0; i < 4; i++) Due.due("it has one", x.told(i, 7), 4 + i);
    }

    private static void windowOfNewLife() {
        Due.sentence("a NAME may not ask by a NUMBER of LOWEST and w, or more");
        for (int w = 1; w <= 16; w += 5) {
            OnceOnly x = new OnceOnly(w);
            for (int life = 1; life < 4; life++) {
                for (int i = 0; i < w; i++) Due.due("one within", x.ask(0, 0, 0, 0, 0, 0, 1), (life - 1) * w + i);
                Due.due("one more", x.ask(0, 0, 0, 0, 0, 0, 1), Due.FULL);
                x.fall(0);
                x.rise(0);
            }
            // Of a new LIFE nothing is OPEN, whatever the older one's LETTERS bring.
            x.flow(200);
            Due.name(x, 0, 1, 4, 1);
        }
    }

    /** What is told of an ASK of ASKER 0 that comes to SERVER 0 at a MOMENT, ACCOUNT 0 having 10 ahead. */
    private static void comes(int[] q, int moment, int left, int record, long a, int times) {
        OnceOnly x = Due.withMoney(4, 0, 10);
        x.ask(0, 0, q[0], 0, q[1], 1, q[2]);
        String call = "kind " + q[0] + " at " + moment;
        Due.due(call, x.deliver(0, moment), left);
        Due.due(call + ", falls", x.count(5), moment < 3 ? 1 : 0);
        Due.due(call + ", LETTERS", x.count(2), left);
        Due.due(call + ", lost", x.count(4), 0);
        Due.due(call + ", RECORD", x.record(0, 0, 2), record);
        Due.kept(x, 0, 0, 1, moment == 0 ? 1 : 2, (moment == 0 ? 1 : 0) + (record == 0 ? 0 : 1));
        Due.due(call + ", a", x.account(0, 0), a);
        Due.due(call + ", times", x.times(1), times);
        Due.due(call + ", OPEN", x.told(1, 5), Due.IS_OPEN);
        Due.due(call + ", rise", x.rise(6), moment < 3 ? 1 : Due.STATE);
        Due.due(call + ", again", x.again(1), left + 1);
        x.flow(200);
        Due.due(call + ", ANSWERED in the end", x.told(1, 5), Due.IS_ANSWERED);
        Due.due(call + ", the sums stay", x.audit(0) + x.audit(1), x.audit(2));
    }

    private static void momentsOfKinds() {
        Due.sentence("MOMENTS at which the end to which a LETTER comes, if it is up, falls: 0 .. 3");
        int[][] asks = {{Due.READ, 0, 0}, {Due.ADD, 0, 5}, {Due.ADD, 0, -11}, {Due.MOVE, 1, 4}, {Due.MOVE, 1, 11},
            {Due.MOVE, 0, 11}, {Due.FAR, 1, 4}, {Due.FAR, 1, 11}, {Due.CANCEL, 0, 1}, {Due.CANCEL, 0, 1000000}};
        int[] records = {0, 1, 1, 1, 1, 1, Due.MIDST, 1, 1, 1};
        int[] has = {10, 15, 10, 6, 10, 10, 6, 10, 10, 10};
        int[] times = {0, 1, 0, 1, 0, 1, 1, 0, 0, 0};
        for (int i = 0; i < asks.length; i++) {
            comes(asks[i], 0, 0, 0, 10, 0);
            comes(asks[i], 1, 0, 0, 10, 0);
            comes(asks[i], 2, 0, records[i], has[i], times[i]);
            comes(asks[i], 3, 1, records[i], has[i], times[i]);
        }
    }

    /** Of an ASK that has a RECORD nothing is done at any MOMENT; what is answered leaves at 3 alone. */
    private static void momentsOfRecords() {
        Due.sentence("2 behind the writing: nothing leaves. 3 not at all");
        for (int moment = 0; moment < 4; moment++) {
            OnceOnly x = new OnceOnly(4);
            x.ask(0, 0, Due.ADD, 0, 0, 0, 5);
            x.ask(0, 0, Due.CANCEL, 0, 0, 0, 3);
            x.ask(0, 0, Due.ADD, 0, 0, 0, 5);
            x.twice(0);
            x.deliver(0, 2);
            x.rise(6);
            x.deliver(0, 2);
            x.rise(6);
            int left = moment == 3 ? 1 : 0;
            Due.due("CANCELLED", x.deliver(0, moment), left);
            Due.due("rise", x.rise(6), moment < 3 ? 1 : Due.STATE);
            Due.due("DONE", x.deliver(0, moment), left);
            Due.due("rise", x.rise(6), moment < 3 ? 1 : Due.STATE);
            Due.kept(x, 0, 0, 1, 1, 3);
            Due.due("account", x.account(0, 0), 5);
            x.lose(0);
            x.lose(0);
            for (int i = 0; i < 3; i++) x.again(i);
            x.flow(200);
            Due.due("answer(0)", x.answer(0), 5);
            Due.due("answer(1)", x.answer(1), 1);
            Due.due("answer(2)", x.answer(2), -2);
        }
    }

    private static void momentsOfReminders() {
        Due.sentence("2 behind the writing: nothing leaves. 3 not at all");
        for (int moment = 0; moment < 4; moment++) {
            OnceOnly x = Due.withFar(1);
            x.twice(0);
            x.deliver(0, 2);
            x.rise(6);
            Due.due("MIDST", x.deliver(0, moment), moment == 3 ? 1 : 0);
            Due.due("LETTERS", x.count(2), moment == 3 ? 1 : 0);
            Due.due("the RECORD", x.record(0, 0, 2), Due.MIDST);
            Due.due("one own ASK", x.count(0), 3);
            Due.due("less once", x.account(0, 0), 70);
            Due.due("under way", x.audit(1), 30);
            x.rise(6);
            x.again(2);
            x.flow(200);
            Due.due("answer", x.answer(1), 70);
        }
    }

    private static void momentOneOfNewLife() {
        Due.sentence("but what stands in ( ) of (a), which is written at once: LIFE");
        for (int moment = 0; moment < 4; moment++) {
            OnceOnly x = Due.withFar(1);
            x.deliver(0, 3);
            x.fall(0);
            x.rise(0);
            x.ask(0, 0, Due.FAR, 0, 2, 1, 20);
            Due.due("one of a new LIFE", x.deliver(1, moment), moment == 3 ? 1 : 0);
            if (moment == 0) Due.kept(x, 0, 0, 1, 2, 1);
            else Due.kept(x, 0, 0, 2, 1, moment == 1 ? 0 : 1);
            Due.due("the older RECORD", x.record(0, 0, 2), moment == 0 ? Due.MIDST : Due.NO_RECORD);
            Due.due("a has", x.account(0, 0), moment < 2 ? 70 : 50);
            Due.due("ASKS", x.count(0), moment < 2 ? 4 : 5);
        }
    }

    private static void momentOneOfLow() {
        Due.sentence("but what stands in ( ) of (a), which is written at once: LOW");
        for (int moment = 0; moment < 4; moment++) {
            OnceOnly x = new OnceOnly(3);
            for (int i = 0; i < 3; i++) x.ask(0, 0, Due.ADD, 0, 0, 0, 1);
            x.deliver(0, 3);
            x.deliver(2, 3);
            x.deliver(0, 3);
            x.again(2);
            x.lose(0);
            // LETTERS: ASK 1's ANSWER, ASK 2 with LOWEST 2. LOW is 1 ahead, RECORDS 1 and 2 are DONE.
            Due.kept(x, 0, 0, 1, 1, 2);
            Due.due("of LOWEST 2", x.deliver(1, moment), moment == 3 ? 1 : 0);
            int records = moment == 0 ? 2 : moment == 1 ? 1 : 2;
            Due.kept(x, 0, 0, 1, moment == 0 ? 1 : 2, records);
            Due.due("RECORD 1", x.record(0, 0, 1), moment == 0 ? Due.DONE : Due.NO_RECORD);
            Due.due("RECORD 2", x.record(0, 0, 2), Due.DONE);
            Due.due("RECORD 3", x.record(0, 0, 3), moment < 2 ? Due.NO_RECORD : Due.DONE);
            Due.due("account", x.account(0, 0), moment < 2 ? 2 : 3);
        }
    }

    private static void momentOneOfOlderLife() {
        Due.sentence("(a) The ASK's LIFE is less than the LIFE that it has: OVER is answered");
        for (int moment = 0; moment < 4; moment++) {
            OnceOnly x = Due.withMoney(4, 0, 10);
            x.leave(0, 0);
            x.ask(0, 0, Due.ADD, 0, 0, 0, 5);
            Due.due("LOWEST", x.letter(0, 2), 2);
            Due.due("OVER", x.deliver(0, moment), moment == 3 ? 1 : 0);
            Due.kept(x, 0, 0, 2, 1, 0);
            Due.due("account", x.account(0, 0), 10);
            Due.due("letter(0, 4)", x.letter(0, 4), moment == 3 ? 1 : Due.NONE);
        }
    }

    private static void momentOneOfOwnAsks() {
        Due.sentence("1 (of a SERVER) .. all that it did for this LETTER is as if it had not been");
        OnceOnly x = Due.withFar(0);
        Due.due("the FAR comes", x.deliver(0, 1), 0);
        Due.name(x, 6, 1, 1, 1);
        Due.due("no own ASK", x.told(2, 0), Due.BAD);
        Due.due("no own ASK", x.told(1, 7), Due.NONE);
        Due.due("none is OPEN but the FAR", x.count(1), 1);
        x.rise(6);
        x.again(1);
        Due.due("the FAR comes", x.deliver(0, 3), 1);
        Due.due("its own comes to itself", x.deliver(0, 1), 0);
        Due.due("b", x.account(0, 2), 0);
        Due.due("its RECORD", x.record(0, 6, 1), Due.NO_RECORD);
        Due.kept(x, 0, 6, 1, 1, 0);
        Due.due("times", x.times(2), 0);
        Due.due("under way", x.audit(1), 30);
        x.rise(6);
        x.again(2);
        x.deliver(0, 3);
        Due.due("its ANSWER comes to itself", x.deliver(0, 1), 0);
        Due.due("still OPEN", x.told(2, 5), Due.IS_OPEN);
        Due.due("no ANSWER", x.answer(2), Due.STATE);
        Due.due("still MIDST", x.record(0, 0, 2), Due.MIDST);
        Due.name(x, 6, 1, 1, 2);
        x.rise(6);
        x.again(2);
        x.flow(200);
        Due.due("answer", x.answer(1), 70);
        Due.due("b", x.account(0, 2), 30);
    }

    private static void momentTwoIsWritten() {
        Due.sentence("2 behind the writing: nothing leaves");
        OnceOnly x = Due.withFar(1);
        Due.due("the FAR comes", x.deliver(0, 2), 0);
        Due.due("no LETTER", x.count(2), 0);
        Due.due("none is lost", x.count(4), 0);
        Due.name(x, 6, 1, 1, 2);
        x.rise(6);
        Due.due("its own ASK is OPEN", x.again(2), 1);
        Due.due("t does it", x.deliver(0, 2), 0);
        Due.due("b", x.account(1, 2), 30);
        Due.due("under way", x.audit(1), 0);
        x.rise(7);
        x.again(2);
        Due.due("t has it", x.deliver(0, 3), 1);
        Due.due("its ANSWER comes", x.deliver(0, 2), 0);
        Due.due("ANSWERED", x.answer(2), 30);
        Due.due("DONE", x.record(0, 0, 2), Due.DONE);
        Due.due("but no LETTER", x.count(2), 0);
        x.rise(6);
        Due.due("the own ASK is not OPEN", x.again(2), Due.STATE);
        x.again(1);
        x.flow(200);
        Due.due("answer", x.answer(1), 70);
    }

    private static void noFallOfWhatIsDown() {
        Due.sentence("MOMENTS at which the end to which a LETTER comes, if it is up, falls");
        for (int moment = 0; moment < 4; moment++) {
            OnceOnly x = new OnceOnly(4);
            x.ask(0, 0, Due.ADD, 0, 0, 0, 5);
            x.twice(0);
            x.twice(0);
            x.bend(2);
            x.deliver(0, 3);
            x.fall(0);
            x.fall(6);
            for (int i = 0; i < 3; i++) Due.due("deliver", x.deliver(0, moment), 0);
            Due.due("falls", x.count(5), 2);
            Due.due("those that came", x.count(3), 4);
            Due.due("none is there", x.count(2), 0);
            Due.due("rise", x.rise(6), 1);
            Due.due("rise", x.rise(0), 2);
        }
    }

    private static void bentOnesFellTheEnd() {
        Due.sentence("(It falls by a BENT one, too.)");
        for (int moment = 0; moment < 4; moment++) {
            OnceOnly x = new OnceOnly(4);
            x.ask(0, 0, Due.ADD, 0, 0, 0, 5);
            x.twice(0);
            x.deliver(0, 3);
            x.bend(0);
            x.bend(1);
            Due.due("to the ASKER", x.deliver(1, moment), 0);
            Due.due("OPEN", x.told(0, 5), Due.IS_OPEN);
            Due.due("falls", x.count(5), moment < 3 ? 1 : 0);
            Due.due("rise", x.rise(0), moment < 3 ? 2 : Due.STATE);
            Due.due("it is then", x.told(0, 5), moment < 3 ? Due.IS_OVER : Due.IS_OPEN);
            Due.due("to the SERVER", x.deliver(0, moment), 0);
            Due.due("falls", x.count(5), moment < 3 ? 2 : 0);
            Due.due("rise", x.rise(6), moment < 3 ? 1 : Due.STATE);
        }
    }

    private static void risenServers() {
        Due.sentence("SERVERS have then what they had");
        OnceOnly x = Due.withFar(1);
        x.deliver(0, 3);
        x.ask(0, 0, Due.CANCEL, 0, 0, 0, 4);
        x.deliver(1, 3);
        x.leave(0, 5);
        for (int i = 0; i < 3; i++) {
            Due.due("fall", x.fall(6), 1);
            Due.due("what is down can be looked at", x.account(0, 0), 70);
            Due.due("rise", x.rise(6), 1);
            Due.kept(x, 0, 0, 1, 2, 3);
            Due.kept(x, 0, 5, 1, 1, 0);
            Due.due("MIDST", x.record(0, 0, 2), Due.MIDST);
            Due.due("DONE", x.record(0, 0, 3), Due.DONE);
            Due.due("CANCELLED", x.record(0, 0, 4), Due.CANCELLED);
            Due.name(x, 6, 1, 1, 2);
            Due.due("its own ASK is OPEN", x.told(2, 5), Due.IS_OPEN);
        }
        x.flow(200);
        Due.due("answer", x.answer(1), 70);
    }

    private static void risenAskers() {
        Due.sentence("As an ASKER rises its LIFE is 1 more, its ASKS that are OPEN are OVER, its next NUMBER is 1");
        for (int w = 1; w <= 16; w++) {
            OnceOnly x = new OnceOnly(w);
            for (int i = 0; i < w; i++) x.ask(0, 0, Due.ADD, 0, 0, 0, 1);
            x.ask(1, 0, Due.ADD, 0, 0, 0, 1);
            if (w > 1) {
                x.deliver(1, 3);
                x.deliver(w, 3);
            }
            x.fall(0);
            for (int i = 0; i < w; i++) {
                Due.due("down, it is OPEN yet", x.told(i, 5), i == 1 ? Due.IS_ANSWERED : Due.IS_OPEN);
            }
            Due.name(x, 0, 1, 1, w + 1);
            Due.due("rise", x.rise(0), 2);
            for (int i = 0; i < w; i++) {
                Due.due("up, it is OVER", x.told(i, 5), i == 1 ? Due.IS_ANSWERED : Due.IS_OVER);
            }
            Due.due("another's is OPEN", x.told(w, 5), Due.IS_OPEN);
            Due.due("one is OPEN", x.count(1), 1);
            Due.name(x, 0, 1, 2, 1);
            x.flow(200);
            Due.due("an ANSWER opens none", x.told(0, 5), Due.IS_OVER);
            Due.due("what came late is done all the same", x.times(0), 1);
        }
    }

    private static void fallenDoNothing() {
        Due.sentence("An end that fell does nothing until it rises");
        OnceOnly x = Due.withFar(1);
        x.deliver(0, 3);
        x.fall(0);
        x.fall(6);
        x.fall(7);
        Due.due("ask", x.ask(0, 0, Due.READ, 0, 0, 0, 0), Due.STATE);
        Due.due("again of an ASKER", x.again(1), Due.STATE);
        Due.due("again of a SERVER", x.again(2), Due.STATE);
        Due.due("leave", x.leave(0, 5), Due.STATE);
        Due.due("its own ASK comes", x.flow(1), 1);
        Due.due("b", x.account(1, 2), 0);
        Due.due("others go on", x.ask(1, 2, Due.ADD, 0, 0, 0, 3), 3);
        x.flow(200);
        Due.due("answer(3)", x.answer(3), 3);
        x.rise(6);
        x.rise(7);
        Due.due("again of a SERVER", x.again(2), 1);
        x.flow(200);
        Due.due("b", x.account(1, 2), 30);
        Due.due("its ASKER was down", x.told(1, 5), Due.IS_OPEN);
        Due.due("rise", x.rise(0), 2);
        Due.due("OVER", x.told(1, 5), Due.IS_OVER);
    }
}
