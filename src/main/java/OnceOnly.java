/**
 * Acts asked of strangers over bad lines, done once though asked a hundred times.
 * The words in capitals in the comments are those of the document's Terms.
 */
public final class OnceOnly {
    public static final int NONE = -1, BAD = -2000001, STATE = -2000002, FULL = -2000003, OVER = -3;

    private static final int ASKERS = 6, SERVERS = 4, NAMES = 10, ACCOUNTS = 6;
    private static final int MOST_ASKS = 300, MOST_LETTERS = 120, MOST_FLOW = 200, MOST_WINDOW = 16;
    private static final int MOST_AMOUNT = 1000000;
    private static final long MOST_HELD = 1000000000000L;

    // A power of two that no WINDOW exceeds: the last bits of a NUMBER are then a safe index,
    // and no two NUMBERS of one WINDOW share a slot.
    private static final int SLOTS = 16, SLOT_MASK = 15;
    // Likewise, above the most LETTERS.
    private static final int RING = 128, RING_MASK = 127;

    private static final int READ = 0, ADD = 1, MOVE = 2, FAR = 3, CANCEL = 4;
    private static final int IS_OPEN = 0, IS_ANSWERED = 1, IS_OVER = 2;
    private static final int NO_RECORD = 0, DONE = 1, MIDST = 2, CANCELLED = 3;
    private static final int AS_IT_COMES = 0, UNWRITTEN = 1, UNFALLEN = 3;
    private static final long NOT_LET = -1, WAS_CANCELLED = -2;

    private final int window;
    private final End[] ends = new End[NAMES];
    private final Server[] servers = new Server[SERVERS];
    private final Ask[] asks = new Ask[MOST_ASKS];
    private final Row row = new Row();
    private int askCount;
    private int fallCount;

    public OnceOnly(int window) {
        this.window = Math.max(1, Math.min(MOST_WINDOW, window));
        for (int name = 0; name < NAMES; name++) ends[name] = new End(name);
        for (int server = 0; server < SERVERS; server++) servers[server] = new Server(this.window);
    }

    // ---- askers

    public int ask(int asker, int server, int kind, int a, int b, int t, int amount) {
        if (asker >= ASKERS || serverOf(server) == null || serverOf(t) == null) return BAD;
        if (!isAccount(a) || !isAccount(b) || !isAmount(kind, amount)) return BAD;
        End end = endOf(asker);
        if (end == null) return BAD;
        if (!end.up) return STATE;
        Ask made = newAsk(end, server, kind, a, b, t, amount);
        if (made == null) return FULL;
        sendAsk(made, true);
        return made.id;
    }

    public int again(int ask) {
        Ask found = askOf(ask);
        if (found == null) return BAD;
        End end = endOf(found.name);
        if (end == null || !end.up || found.state != IS_OPEN) return STATE;
        if (row.isFull()) return FULL;
        sendAsk(found, true);
        return row.under;
    }

    public int told(int ask, int what) {
        Ask found = askOf(ask);
        if (found == null) return BAD;
        switch (what) {
            case 0: return found.name;
            case 1: return found.life;
            case 2: return found.number;
            case 3: return found.server;
            case 4: return found.kind;
            case 5: return found.state;
            case 6: return idOf(found.far);
            case 7: return idOf(found.own);
            default: return BAD;
        }
    }

    public long answer(int ask) {
        Ask found = askOf(ask);
        if (found == null) return BAD;
        return found.state == IS_ANSWERED ? found.answer : STATE;
    }

    public int name(int name, int what) {
        End end = endOf(name);
        if (end == null) return BAD;
        switch (what) {
            case 0: return end.lowestOpen();
            case 1: return end.life;
            case 2: return end.next;
            default: return BAD;
        }
    }

    // ---- letters

    public int deliver(int i, int moment) {
        if (row.at(i) == null || moment < AS_IT_COMES || moment > UNFALLEN) return BAD;
        return come(i, moment);
    }

    public int lose(int i) {
        if (row.take(i) == null) return BAD;
        row.lost++;
        return row.under;
    }

    public int twice(int i) {
        Letter letter = row.at(i);
        if (letter == null) return BAD;
        if (row.isFull()) return FULL;
        Letter copy = row.fresh();
        if (copy != null) copy.become(letter);
        return row.under;
    }

    public int bend(int i) {
        Letter letter = row.at(i);
        if (letter == null) return BAD;
        if (letter.bent) return 0;
        letter.bent = true;
        return 1;
    }

    public int letter(int i, int what) {
        if (what < 0 || what > 4) return BAD;
        Letter letter = row.at(i);
        if (letter == null) return NONE;
        switch (what) {
            case 0: return idOf(letter.ask);
            case 1: return letter.reply ? 1 : 0;
            case 2: return letter.reply ? NONE : letter.lowest;
            case 3: return letter.bent ? 1 : 0;
            default: return letter.over ? 1 : 0;
        }
    }

    public int flow(int n) {
        if (n < 1 || n > MOST_FLOW) return BAD;
        int came = 0;
        while (came < n && row.under > 0) {
            come(0, UNFALLEN);
            came++;
        }
        return came;
    }

    // ---- falls

    public int fall(int name) {
        End end = endOf(name);
        if (end == null) return BAD;
        if (!end.up) return STATE;
        bringDown(end);
        return 1;
    }

    public int rise(int name) {
        End end = endOf(name);
        if (end == null) return BAD;
        if (end.up) return STATE;
        end.up = true;
        if (end.name < ASKERS) end.beginLife();
        return end.life;
    }

    // ---- servers

    public long account(int server, int a) {
        Server found = serverOf(server);
        if (found == null || !isAccount(a)) return BAD;
        return found.has(a);
    }

    public int kept(int server, int name, int what) {
        Memory memory = memoryOf(server, name);
        if (memory == null) return BAD;
        switch (what) {
            case 0: return memory.life;
            case 1: return memory.low;
            case 2: return memory.records;
            default: return BAD;
        }
    }

    public int record(int server, int name, int number) {
        Memory memory = memoryOf(server, name);
        return memory == null ? BAD : memory.stateOf(number);
    }

    public int leave(int server, int asker) {
        Memory memory = memoryOf(server, asker);
        End end = endOf(ASKERS + server);
        if (memory == null || end == null || asker >= ASKERS) return BAD;
        if (!end.up || memory.hasMidst()) return STATE;
        int gone = memory.records;
        memory.beginLife(memory.life + 1);
        return gone;
    }

    public int times(int ask) {
        Ask found = askOf(ask);
        if (found == null) return BAD;
        return found.done ? 1 : 0;
    }

    public long audit(int what) {
        switch (what) {
            case 0: return sumOfAccounts();
            case 1: return sumUnderWay();
            case 2: return sumOfAdds();
            default: return BAD;
        }
    }

    public long witness(int ask) {
        Ask found = askOf(ask);
        if (found == null) return BAD;
        return found.state == IS_ANSWERED ? found.seal() : STATE;
    }

    public int check(int ask, long witness) {
        Ask found = askOf(ask);
        if (found == null) return BAD;
        return found.state == IS_ANSWERED && found.seal() == witness ? 1 : 0;
    }

    public int count(int what) {
        switch (what) {
            case 0: return askCount;
            case 1: return openAsks();
            case 2: return row.under;
            case 3: return row.came;
            case 4: return row.lost;
            case 5: return fallCount;
            case 6: return allRecords();
            case 7: return window;
            default: return BAD;
        }
    }

    // ---- what numbers mean

    private End endOf(int name) {
        return name >= 0 && name < ends.length ? ends[name] : null;
    }

    private Server serverOf(int server) {
        return server >= 0 && server < servers.length ? servers[server] : null;
    }

    private Ask askOf(int ask) {
        return ask >= 0 && ask < asks.length ? asks[ask] : null;
    }

    private Memory memoryOf(int server, int name) {
        Server found = serverOf(server);
        return found == null ? null : found.memoryOf(name);
    }

    private static int idOf(Ask ask) {
        return ask == null ? NONE : ask.id;
    }

    private static boolean isAccount(int a) {
        return a >= 0 && a < ACCOUNTS;
    }

    private static boolean isAmount(int kind, int amount) {
        if (amount > MOST_AMOUNT) return false;
        switch (kind) {
            case READ: case ADD: return amount >= -MOST_AMOUNT;
            case MOVE: case FAR: return amount >= 0;
            case CANCEL: return amount >= 1;
            default: return false;
        }
    }

    // ---- asking and sending

    /** Null if there is no room, among ASKS or in the WINDOW. */
    private Ask newAsk(End end, int server, int kind, int a, int b, int t, int amount) {
        if (askCount < 0 || askCount >= asks.length) return null;
        if (end.next - end.lowestOpen() >= window) return null;
        Ask made = new Ask(askCount, end.name, end.life, end.next);
        made.server = server;
        made.kind = kind;
        made.a = a;
        made.b = b;
        made.t = t;
        made.amount = amount;
        asks[askCount] = made;
        askCount++;
        end.keep(made);
        return made;
    }

    /** How many LETTERS leave, with room or without: none of an end that falls ahead of it. */
    private int sendAsk(Ask ask, boolean leaves) {
        End end = endOf(ask.name);
        if (!leaves || end == null) return 0;
        Letter letter = row.fresh();
        if (letter != null) letter.asks(ask, end.lowestOpen());
        return 1;
    }

    private int sendAnswer(Ask ask, long answer, boolean leaves) {
        if (!leaves) return 0;
        Letter letter = row.fresh();
        if (letter != null) letter.replies(ask, answer);
        return 1;
    }

    private int sendOver(Ask ask, boolean leaves) {
        if (!leaves) return 0;
        Letter letter = row.fresh();
        if (letter != null) letter.refuses(ask);
        return 1;
    }

    // ---- letters that come

    private int come(int i, int moment) {
        Letter letter = row.take(i);
        if (letter == null || letter.ask == null) return 0;
        row.came++;
        Ask ask = letter.ask;
        End end = endOf(letter.reply ? ask.name : ASKERS + ask.server);
        if (end == null || !end.up) return 0;
        int left = 0;
        if (moment != AS_IT_COMES && !letter.bent) {
            if (!letter.reply) left = serve(letter, ask, moment);
            else if (end.name < ASKERS) hear(letter, ask);
            else left = finishFar(letter, ask, moment);
        }
        if (moment != UNFALLEN) bringDown(end);
        return left;
    }

    private void hear(Letter letter, Ask ask) {
        if (ask.state != IS_OPEN) return;
        if (letter.over) ask.state = IS_OVER;
        else ask.close(letter.answer);
    }

    private int serve(Letter letter, Ask ask, int moment) {
        Server server = serverOf(ask.server);
        Memory memory = memoryOf(ask.server, ask.name);
        if (server == null || memory == null) return 0;
        boolean leaves = moment == UNFALLEN;
        if (ask.life < memory.life) return sendOver(ask, leaves);
        // This alone is written at once, so a fall ahead of the writing leaves it standing;
        // all the rest is then not begun, which is as if it had not been.
        if (ask.life > memory.life) memory.beginLife(ask.life);
        memory.raiseLow(letter.lowest);
        if (moment == UNWRITTEN || ask.number < memory.low) return 0;
        switch (memory.stateOf(ask.number)) {
            case NO_RECORD: return act(server, memory, ask, leaves);
            case MIDST: return remind(ask.own, leaves);
            default: return sendAnswer(ask, memory.answerOf(ask.number), leaves);
        }
    }

    private int remind(Ask own, boolean leaves) {
        return own != null && own.state == IS_OPEN ? sendAsk(own, leaves) : 0;
    }

    private int act(Server server, Memory memory, Ask ask, boolean leaves) {
        if (ask.kind == READ) return sendAnswer(ask, server.has(ask.a), leaves);
        Ask own = ask.kind == FAR ? beginFar(server, memory, ask) : null;
        if (own != null) return sendAsk(own, leaves);
        long answer = NOT_LET;
        if (ask.kind == ADD) answer = add(server, ask);
        if (ask.kind == MOVE) answer = move(server, ask);
        if (ask.kind == CANCEL) answer = cancel(memory, ask);
        memory.write(ask.number, DONE, answer);
        return sendAnswer(ask, answer, leaves);
    }

    private long add(Server server, Ask ask) {
        if (ask.name < ASKERS && !server.lets(ask.a, ask.amount)) return NOT_LET;
        server.change(ask.a, ask.amount);
        ask.done = true;
        return server.has(ask.a);
    }

    private long move(Server server, Ask ask) {
        if (ask.a != ask.b) {
            if (!server.lets(ask.a, -ask.amount) || !server.lets(ask.b, ask.amount)) return NOT_LET;
            server.change(ask.a, -ask.amount);
            server.change(ask.b, ask.amount);
        }
        ask.done = true;
        return server.has(ask.a);
    }

    private long cancel(Memory memory, Ask ask) {
        int number = ask.amount;
        int state = memory.stateOf(number);
        if (number == ask.number || number < memory.low || state == DONE) return 0;
        if (state == MIDST) return 2;
        if (!memory.isWithin(number)) return 3;
        memory.write(number, CANCELLED, WAS_CANCELLED);
        return 1;
    }

    /** The own ASK; null if the FAR is NOT LET. */
    private Ask beginFar(Server server, Memory memory, Ask far) {
        End end = endOf(ASKERS + far.server);
        if (end == null || !server.lets(far.a, -far.amount)) return null;
        Ask own = newAsk(end, far.t, ADD, far.b, far.b, far.t, far.amount);
        if (own == null) return null;
        server.change(far.a, -far.amount);
        memory.write(far.number, MIDST, 0);
        own.far = far;
        far.own = own;
        far.done = true;
        return own;
    }

    /** An ANSWER's LETTER comes to a SERVER. */
    private int finishFar(Letter letter, Ask own, int moment) {
        if (moment == UNWRITTEN || own.state != IS_OPEN) return 0;
        own.close(letter.answer);
        Ask far = own.far;
        if (far == null) return 0;
        Server server = serverOf(far.server);
        Memory memory = memoryOf(far.server, far.name);
        if (server == null || memory == null) return 0;
        // A later LIFE may have a RECORD of the same NUMBER that is another FAR's.
        if (memory.life != far.life || memory.stateOf(far.number) != MIDST) return 0;
        long answer = server.has(far.a);
        memory.write(far.number, DONE, answer);
        return sendAnswer(far, answer, moment == UNFALLEN);
    }

    private void bringDown(End end) {
        end.up = false;
        fallCount++;
    }

    // ---- sums

    private long sumOfAccounts() {
        long sum = 0;
        for (int server = 0; server < SERVERS; server++) {
            for (int a = 0; a < ACCOUNTS; a++) sum += account(server, a);
        }
        return sum;
    }

    private long sumUnderWay() {
        long sum = 0;
        for (int i = 0; i < askCount; i++) {
            Ask own = askOf(i);
            if (own != null && own.far != null && !own.done) sum += own.amount;
        }
        return sum;
    }

    private long sumOfAdds() {
        long sum = 0;
        for (int i = 0; i < askCount; i++) {
            Ask found = askOf(i);
            if (found != null && found.kind == ADD && found.name < ASKERS && found.done) sum += found.amount;
        }
        return sum;
    }

    private int openAsks() {
        int open = 0;
        for (int i = 0; i < askCount; i++) {
            Ask found = askOf(i);
            if (found != null && found.state == IS_OPEN) open++;
        }
        return open;
    }

    private int allRecords() {
        int all = 0;
        for (int server = 0; server < SERVERS; server++) {
            for (int name = 0; name < NAMES; name++) all += kept(server, name, 2);
        }
        return all;
    }

    /** What is asked, and how it stands. */
    private static final class Ask {
        final int id, name, life, number;
        int server, kind, a, b, t, amount;
        int state = IS_OPEN;
        long answer;
        boolean done;
        Ask far, own;

        Ask(int id, int name, int life, int number) {
            this.id = id;
            this.name = name;
            this.life = life;
            this.number = number;
        }

        void close(long given) {
            state = IS_ANSWERED;
            answer = given;
        }

        /** The WITNESS, of an ASK that is ANSWERED. */
        long seal() {
            long h = 17;
            h = 31 * h + name;
            h = 31 * h + life;
            h = 31 * h + number;
            h = 31 * h + server;
            h = 31 * h + kind;
            return 31 * h + answer;
        }
    }

    /** An ASKER or a SERVER, as one that asks by its NAME. */
    private static final class End {
        final int name;
        boolean up = true;
        int life = 1, next = 1;
        // No ASK of the LIFE below it is OPEN; it only moves up, as no ASK opens again.
        private int lowest = 1;
        // The last ones; one that is OPEN is among them, as the WINDOW is no longer than the row.
        private final Ask[] asked = new Ask[SLOTS];

        End(int name) {
            this.name = name;
        }

        int lowestOpen() {
            while (lowest < next && !isOpen(asked[lowest & SLOT_MASK])) lowest++;
            return lowest;
        }

        void keep(Ask made) {
            asked[next & SLOT_MASK] = made;
            next++;
        }

        void beginLife() {
            for (int i = 0; i < SLOTS; i++) {
                Ask last = asked[i];
                if (last != null && isOpen(last)) last.state = IS_OVER;
            }
            life++;
            next = 1;
            lowest = 1;
        }

        private static boolean isOpen(Ask ask) {
            return ask != null && ask.state == IS_OPEN;
        }
    }

    /** The ACCOUNTS of a SERVER, and what it has of each NAME. */
    private static final class Server {
        private final long[] accounts = new long[ACCOUNTS];
        private final Memory[] memories = new Memory[NAMES];

        Server(int window) {
            for (int name = 0; name < NAMES; name++) memories[name] = new Memory(window);
        }

        Memory memoryOf(int name) {
            return name >= 0 && name < memories.length ? memories[name] : null;
        }

        long has(int a) {
            return a >= 0 && a < accounts.length ? accounts[a] : 0;
        }

        boolean lets(int a, long more) {
            long then = has(a) + more;
            return then >= 0 && then <= MOST_HELD;
        }

        void change(int a, long more) {
            if (a >= 0 && a < accounts.length) accounts[a] += more;
        }
    }

    /**
     * What a SERVER has of a NAME. RECORDS stand only from LOW up to the WINDOW's end: a NAME
     * asks by no NUMBER beyond it, and its LETTER raises LOW ahead of the RECORD.
     */
    private static final class Memory {
        final int window;
        int life, low = 1, records;
        private final int[] states = new int[SLOTS];
        private final long[] answers = new long[SLOTS];

        Memory(int window) {
            this.window = window;
        }

        boolean isWithin(int number) {
            return number >= low && number - low < window;
        }

        int stateOf(int number) {
            return isWithin(number) ? states[number & SLOT_MASK] : NO_RECORD;
        }

        long answerOf(int number) {
            return isWithin(number) ? answers[number & SLOT_MASK] : 0;
        }

        void write(int number, int state, long answer) {
            if (!isWithin(number)) return;
            if (states[number & SLOT_MASK] == NO_RECORD) records++;
            states[number & SLOT_MASK] = state;
            answers[number & SLOT_MASK] = answer;
        }

        void raiseLow(int lowest) {
            if (lowest <= low) return;
            int end = Math.min(lowest, low + window);
            for (int number = low; number < end; number++) forget(number);
            low = lowest;
        }

        void beginLife(int newLife) {
            for (int number = low; number < low + window; number++) forget(number);
            life = newLife;
            low = 1;
        }

        boolean hasMidst() {
            for (int number = low; number < low + window; number++) {
                if (stateOf(number) == MIDST) return true;
            }
            return false;
        }

        private void forget(int number) {
            if (states[number & SLOT_MASK] != NO_RECORD) records--;
            states[number & SLOT_MASK] = NO_RECORD;
        }
    }

    /** Of an ASK, or of its ANSWER. */
    private static final class Letter {
        Ask ask;
        boolean reply, over, bent;
        int lowest;
        long answer;

        void asks(Ask asked, int lowestOpen) {
            ask = asked;
            reply = false;
            over = false;
            bent = false;
            lowest = lowestOpen;
            answer = 0;
        }

        void replies(Ask asked, long given) {
            asks(asked, 0);
            reply = true;
            answer = given;
        }

        void refuses(Ask asked) {
            replies(asked, 0);
            over = true;
        }

        void become(Letter other) {
            ask = other.ask;
            reply = other.reply;
            over = other.over;
            bent = other.bent;
            lowest = other.lowest;
            answer = other.answer;
        }
    }

    /** The LETTERS under way, in a ring of objects that are used again. */
    private static final class Row {
        int under, came, lost;
        private int first;
        private final Letter[] ring = new Letter[RING];

        Row() {
            for (int i = 0; i < RING; i++) ring[i] = new Letter();
        }

        boolean isFull() {
            return under >= MOST_LETTERS;
        }

        Letter at(int i) {
            return i >= 0 && i < under ? ring[slot(i)] : null;
        }

        /** A place behind the others; null, and one more is lost, if there is no room. */
        Letter fresh() {
            if (isFull()) {
                lost++;
                return null;
            }
            under++;
            return ring[slot(under - 1)];
        }

        /** It stays whole until some others have come behind the row, as the ring has places to spare. */
        Letter take(int i) {
            Letter taken = at(i);
            if (taken == null) return null;
            for (int j = i; j > 0; j--) ring[slot(j)] = ring[slot(j - 1)];
            ring[slot(0)] = taken;
            first = slot(1);
            under--;
            return taken;
        }

        private int slot(int i) {
            return (first + i) & RING_MASK;
        }
    }
}
