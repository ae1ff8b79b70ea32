import java.util.ArrayList;
import java.util.List;
import java.util.TreeMap;

/**
 * The document a second time, in its plainest form: maps and lists, all sums and bounds counted
 * anew at each call, and a fall ahead of the writing told by a copy of all that is taken back.
 * It shares no code and no shortcut with the class, so that the two seldom err alike.
 */
final class Model {
    private static final long MOST = 1_000_000_000_000L;

    private enum How { OPEN, ANSWERED, OVER }

    private enum Mark { NONE, DONE, MIDST, CANCELLED }

    private static final class Ask {
        int name, life, number, server, kind, a, b, t, amount, times;
        int far = -1, own = -1;
        How how = How.OPEN;
        long answer;
    }

    private record Written(Mark mark, long answer) {
    }

    /** Of an ASK: its lowest; of an ANSWER: an answer, or none for OVER. */
    private record Letter(int ask, boolean reply, int lowest, Long answer, boolean bent) {
    }

    /** What a SERVER has on disk, and what else a LETTER may change. */
    private static final class World {
        final List<Ask> asks = new ArrayList<>();
        final long[][] accounts = new long[4][6];
        final int[][] lives = new int[4][10];
        final int[][] lows = new int[4][10];
        final List<TreeMap<Integer, Written>> records = new ArrayList<>();
        final int[] nexts = new int[10];

        World() {
            for (int i = 0; i < 40; i++) {
                records.add(new TreeMap<>());
                lows[i / 10][i % 10] = 1;
            }
            java.util.Arrays.fill(nexts, 1);
        }

        World copy() {
            World copy = new World();
            for (Ask ask : asks) copy.asks.add(copy(ask));
            for (int s = 0; s < 4; s++) {
                copy.accounts[s] = accounts[s].clone();
                copy.lives[s] = lives[s].clone();
                copy.lows[s] = lows[s].clone();
            }
            for (int i = 0; i < 40; i++) copy.records.get(i).putAll(records.get(i));
            System.arraycopy(nexts, 0, copy.nexts, 0, 10);
            return copy;
        }

        private static Ask copy(Ask of) {
            Ask copy = new Ask();
            copy.name = of.name;
            copy.life = of.life;
            copy.number = of.number;
            copy.server = of.server;
            copy.kind = of.kind;
            copy.a = of.a;
            copy.b = of.b;
            copy.t = of.t;
            copy.amount = of.amount;
            copy.times = of.times;
            copy.far = of.far;
            copy.own = of.own;
            copy.how = of.how;
            copy.answer = of.answer;
            return copy;
        }

        TreeMap<Integer, Written> of(int server, int name) {
            return records.get(server * 10 + name);
        }
    }

    private final int w;
    private World world = new World();
    private final List<Letter> letters = new ArrayList<>();
    private final boolean[] down = new boolean[10];
    private final int[] lives = {1, 1, 1, 1, 1, 1, 1, 1, 1, 1};
    private final List<Letter> outbox = new ArrayList<>();
    private int came, lost, falls;

    Model(int window) {
        w = Math.min(16, Math.max(1, window));
    }

    private static boolean outside(int number, int least, int most) {
        return number < least || number > most;
    }

    private boolean noAsk(int ask) {
        return outside(ask, 0, world.asks.size() - 1);
    }

    private boolean noLetter(int i) {
        return outside(i, 0, letters.size() - 1);
    }

    private int lowest(int name) {
        for (int number = 1; number < world.nexts[name]; number++) {
            for (Ask ask : world.asks) {
                boolean that = ask.name == name && ask.life == lives[name] && ask.number == number;
                if (that && ask.how == How.OPEN) return number;
            }
        }
        return world.nexts[name];
    }

    private boolean roomToAsk(int name) {
        return world.asks.size() < 300 && world.nexts[name] < lowest(name) + w;
    }

    private int make(int name, int server, int kind, int a, int b, int t, int amount) {
        Ask ask = new Ask();
        ask.name = name;
        ask.life = lives[name];
        ask.number = world.nexts[name]++;
        ask.server = server;
        ask.kind = kind;
        ask.a = a;
        ask.b = b;
        ask.t = t;
        ask.amount = amount;
        world.asks.add(ask);
        return world.asks.size() - 1;
    }

    private Letter letterOf(int ask) {
        return new Letter(ask, false, lowest(world.asks.get(ask).name), null, false);
    }

    private void send(Letter letter) {
        if (letters.size() >= 120) lost++;
        else letters.add(letter);
    }

    int ask(int asker, int server, int kind, int a, int b, int t, int amount) {
        if (outside(asker, 0, 5) || outside(server, 0, 3) || outside(kind, 0, 4)) return Due.BAD;
        if (outside(a, 0, 5) || outside(b, 0, 5) || outside(t, 0, 3)) return Due.BAD;
        int[] least = {-1000000, -1000000, 0, 0, 1};
        if (outside(amount, least[kind], 1000000)) return Due.BAD;
        if (down[asker]) return Due.STATE;
        if (!roomToAsk(asker)) return Due.FULL;
        int made = make(asker, server, kind, a, b, t, amount);
        send(letterOf(made));
        return made;
    }

    int again(int ask) {
        if (noAsk(ask)) return Due.BAD;
        Ask q = world.asks.get(ask);
        if (q.how != How.OPEN || down[q.name]) return Due.STATE;
        if (letters.size() == 120) return Due.FULL;
        send(letterOf(ask));
        return letters.size();
    }

    int told(int ask, int what) {
        if (noAsk(ask) || outside(what, 0, 7)) return Due.BAD;
        Ask q = world.asks.get(ask);
        return new int[] {q.name, q.life, q.number, q.server, q.kind, q.how.ordinal(), q.far, q.own}[what];
    }

    long answer(int ask) {
        if (noAsk(ask)) return Due.BAD;
        Ask q = world.asks.get(ask);
        return q.how == How.ANSWERED ? q.answer : Due.STATE;
    }

    int name(int name, int what) {
        if (outside(name, 0, 9) || outside(what, 0, 2)) return Due.BAD;
        return new int[] {lowest(name), lives[name], world.nexts[name]}[what];
    }

    int deliver(int i, int moment) {
        if (noLetter(i) || outside(moment, 0, 3)) return Due.BAD;
        Letter letter = letters.remove(i);
        came++;
        Ask q = world.asks.get(letter.ask);
        int end = letter.reply ? q.name : 6 + q.server;
        outbox.clear();
        if (down[end]) return 0;
        if (!letter.bent && moment != 0) {
            if (end < 6) answerComesToAsker(letter);
            else comesToServer(letter, moment);
        }
        if (moment < 3) {
            down[end] = true;
            falls++;
            outbox.clear();
        }
        for (Letter out : outbox) send(out);
        return outbox.size();
    }

    private void answerComesToAsker(Letter letter) {
        Ask q = world.asks.get(letter.ask);
        if (q.how != How.OPEN) return;
        q.how = letter.answer == null ? How.OVER : How.ANSWERED;
        if (letter.answer != null) q.answer = letter.answer;
    }

    private void comesToServer(Letter letter, int moment) {
        Ask q = world.asks.get(letter.ask);
        boolean older = !letter.reply && q.life < world.lives[q.server][q.name];
        if (!letter.reply && !older) learn(q, letter.lowest);
        World ahead = world.copy();
        if (letter.reply) answerComesToServer(letter);
        else if (older) outbox.add(new Letter(letter.ask, true, 0, null, false));
        else serve(letter.ask);
        if (moment == 1) world = ahead;
    }

    private void learn(Ask q, int lowest) {
        int s = q.server;
        if (q.life > world.lives[s][q.name]) {
            world.lives[s][q.name] = q.life;
            world.lows[s][q.name] = 1;
            world.of(s, q.name).clear();
        }
        if (lowest > world.lows[s][q.name]) {
            world.lows[s][q.name] = lowest;
            world.of(s, q.name).headMap(lowest).clear();
        }
    }

    private void serve(int ask) {
        Ask q = world.asks.get(ask);
        if (q.number < world.lows[q.server][q.name]) return;
        Written there = world.of(q.server, q.name).get(q.number);
        if (there != null && there.mark == Mark.MIDST) {
            if (world.asks.get(q.own).how == How.OPEN) outbox.add(letterOf(q.own));
        } else if (there != null) {
            reply(ask, there.mark == Mark.CANCELLED ? -2 : there.answer);
        } else if (q.kind == 0) {
            reply(ask, world.accounts[q.server][q.a]);
        } else if (!isLet(q)) {
            done(ask, -1);
        } else if (q.kind == 3) {
            far(ask);
        } else if (q.kind == 4) {
            done(ask, cancel(q));
        } else {
            world.accounts[q.server][q.a] += q.kind == 1 ? q.amount : -q.amount;
            if (q.kind == 2) world.accounts[q.server][q.b] += q.amount;
            q.times++;
            done(ask, world.accounts[q.server][q.a]);
        }
    }

    private void reply(int ask, long answer) {
        outbox.add(new Letter(ask, true, 0, answer, false));
    }

    private void done(int ask, long answer) {
        Ask q = world.asks.get(ask);
        world.of(q.server, q.name).put(q.number, new Written(Mark.DONE, answer));
        reply(ask, answer);
    }

    private boolean isLet(Ask q) {
        long a = world.accounts[q.server][q.a];
        long b = world.accounts[q.server][q.b];
        switch (q.kind) {
            case 1: return q.name > 5 || fits(a + q.amount);
            case 2: return q.a == q.b || fits(a - q.amount) && fits(b + q.amount);
            case 3: return fits(a - q.amount) && roomToAsk(6 + q.server);
            default: return true;
        }
    }

    private static boolean fits(long amount) {
        return amount >= 0 && amount <= MOST;
    }

    private void far(int ask) {
        Ask q = world.asks.get(ask);
        world.accounts[q.server][q.a] -= q.amount;
        world.of(q.server, q.name).put(q.number, new Written(Mark.MIDST, 0));
        q.times++;
        q.own = make(6 + q.server, q.t, 1, q.b, 0, 0, q.amount);
        world.asks.get(q.own).far = ask;
        outbox.add(letterOf(q.own));
    }

    private long cancel(Ask q) {
        TreeMap<Integer, Written> written = world.of(q.server, q.name);
        int low = world.lows[q.server][q.name];
        Mark mark = written.getOrDefault(q.amount, new Written(Mark.NONE, 0)).mark;
        if (q.amount == q.number || q.amount < low || mark == Mark.DONE) return 0;
        if (mark == Mark.MIDST) return 2;
        if (q.amount >= low + w) return 3;
        written.put(q.amount, new Written(Mark.CANCELLED, 0));
        return 1;
    }

    private void answerComesToServer(Letter letter) {
        Ask own = world.asks.get(letter.ask);
        if (own.how != How.OPEN) return;
        own.how = How.ANSWERED;
        own.answer = letter.answer;
        Ask far = world.asks.get(own.far);
        if (world.lives[far.server][far.name] != far.life) return;
        Written there = world.of(far.server, far.name).get(far.number);
        if (there == null || there.mark != Mark.MIDST) return;
        done(own.far, world.accounts[far.server][far.a]);
    }

    int lose(int i) {
        if (noLetter(i)) return Due.BAD;
        letters.remove(i);
        lost++;
        return letters.size();
    }

    int twice(int i) {
        if (noLetter(i)) return Due.BAD;
        if (letters.size() == 120) return Due.FULL;
        letters.add(letters.get(i));
        return letters.size();
    }

    int bend(int i) {
        if (noLetter(i)) return Due.BAD;
        Letter letter = letters.get(i);
        letters.set(i, new Letter(letter.ask, letter.reply, letter.lowest, letter.answer, true));
        return letter.bent ? 0 : 1;
    }

    int letter(int i, int what) {
        if (outside(what, 0, 4)) return Due.BAD;
        if (noLetter(i)) return Due.NONE;
        Letter letter = letters.get(i);
        boolean over = letter.reply && letter.answer == null;
        int lowest = letter.reply ? Due.NONE : letter.lowest;
        return new int[] {letter.ask, letter.reply ? 1 : 0, lowest, letter.bent ? 1 : 0, over ? 1 : 0}[what];
    }

    int flow(int n) {
        if (outside(n, 1, 200)) return Due.BAD;
        int before = came;
        for (int k = 0; k < n; k++) deliver(0, 3);
        return came - before;
    }

    int fall(int name) {
        if (outside(name, 0, 9)) return Due.BAD;
        if (down[name]) return Due.STATE;
        down[name] = true;
        falls++;
        return 1;
    }

    int rise(int name) {
        if (outside(name, 0, 9)) return Due.BAD;
        if (!down[name]) return Due.STATE;
        down[name] = false;
        if (name > 5) return 1;
        for (Ask q : world.asks) if (q.name == name && q.how == How.OPEN) q.how = How.OVER;
        world.nexts[name] = 1;
        return ++lives[name];
    }

    long account(int server, int a) {
        return outside(server, 0, 3) || outside(a, 0, 5) ? Due.BAD : world.accounts[server][a];
    }

    int kept(int server, int name, int what) {
        if (outside(server, 0, 3) || outside(name, 0, 9) || outside(what, 0, 2)) return Due.BAD;
        int records = world.of(server, name).size();
        return new int[] {world.lives[server][name], world.lows[server][name], records}[what];
    }

    int record(int server, int name, int number) {
        if (outside(server, 0, 3) || outside(name, 0, 9)) return Due.BAD;
        return world.of(server, name).getOrDefault(number, new Written(Mark.NONE, 0)).mark.ordinal();
    }

    int leave(int server, int asker) {
        if (outside(server, 0, 3) || outside(asker, 0, 5)) return Due.BAD;
        TreeMap<Integer, Written> written = world.of(server, asker);
        if (down[6 + server] || written.values().stream().anyMatch(r -> r.mark == Mark.MIDST)) return Due.STATE;
        int there = written.size();
        written.clear();
        world.lives[server][asker]++;
        world.lows[server][asker] = 1;
        return there;
    }

    int times(int ask) {
        return noAsk(ask) ? Due.BAD : world.asks.get(ask).times;
    }

    long audit(int what) {
        if (outside(what, 0, 2)) return Due.BAD;
        long[] sums = new long[3];
        for (long[] server : world.accounts) for (long has : server) sums[0] += has;
        for (Ask q : world.asks) {
            if (q.kind == 3 && q.times > 0 && world.asks.get(q.own).times == 0) sums[1] += q.amount;
            if (q.kind == 1 && q.times > 0 && q.name < 6) sums[2] += q.amount;
        }
        return sums[what];
    }

    long witness(int ask) {
        if (noAsk(ask)) return Due.BAD;
        Ask q = world.asks.get(ask);
        if (q.how != How.ANSWERED) return Due.STATE;
        long h = 17;
        for (long v : new long[] {q.name, q.life, q.number, q.server, q.kind, q.answer}) h = 31 * h + v;
        return h;
    }

    int check(int ask, long witness) {
        if (noAsk(ask)) return Due.BAD;
        return world.asks.get(ask).how == How.ANSWERED && witness(ask) == witness ? 1 : 0;
    }

    int count(int what) {
        if (outside(what, 0, 7)) return Due.BAD;
        int open = (int) world.asks.stream().filter(q -> q.how == How.OPEN).count();
        int records = world.records.stream().mapToInt(TreeMap::size).sum();
        return new int[] {world.asks.size(), open, letters.size(), came, lost, falls, records, w}[what];
    }
}
