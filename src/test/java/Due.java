/** What the tests share: the count of wrong answers, and objects in states that take long to reach. */
final class Due {
    static final int BAD = OnceOnly.BAD, STATE = OnceOnly.STATE, FULL = OnceOnly.FULL, NONE = OnceOnly.NONE;
    static final int READ = 0, ADD = 1, MOVE = 2, FAR = 3, CANCEL = 4;
    static final int IS_OPEN = 0, IS_ANSWERED = 1, IS_OVER = 2;
    static final int NO_RECORD = 0, DONE = 1, MIDST = 2, CANCELLED = 3;

    private static String part = "";
    private static int calls = 0;
    private static int wrong = 0;

    private Due() {
    }

    static void promise(int number) {
        part = "promise " + number;
    }

    /** Words of the document: the answers that follow hold the bounds that they name. */
    static void sentence(String words) {
        part = "\"" + words + "\"";
    }

    static void due(String call, long got, long want) {
        calls++;
        if (got == want) return;
        wrong++;
        System.out.println(part + ": " + call + " answered " + got + ", due is " + want);
    }

    static void end(String test) {
        System.out.println(test + ": " + calls + " answers, " + wrong + " wrong");
        if (wrong != 0 || calls == 0) System.exit(1);
    }

    /** ASKER 0 has ADDED the amount to ACCOUNT 0 of the SERVER, by its NUMBER 1; no LETTER is under way. */
    static OnceOnly withMoney(int window, int server, int amount) {
        OnceOnly x = new OnceOnly(window);
        due("the first ask", x.ask(0, server, ADD, 0, 0, 0, amount), 0);
        due("its way and back", x.flow(2), 2);
        return x;
    }

    /** As many ASKS as told, all ANSWERED, by WINDOWS of 16 of all six ASKERS: READS of SERVER 3. */
    static OnceOnly withAsks(int many) {
        OnceOnly x = new OnceOnly(16);
        for (int i = 0; i < many; i++) {
            if (i % 96 == 95) x.flow(200);
            if (x.ask(i / 16 % 6, 3, READ, 0, 0, 0, 0) != i) due("ask " + i, -1, i);
        }
        x.flow(200);
        due("the ASKS so far", x.count(0), many);
        due("none is OPEN", x.count(1), 0);
        return x;
    }

    /** As many LETTERS as told, all copies of that of ASK 0: ASKER 0's ADD of 7 to ACCOUNT 0 of SERVER 0. */
    static OnceOnly withLetters(int many) {
        OnceOnly x = new OnceOnly(16);
        x.ask(0, 0, ADD, 0, 0, 0, 7);
        for (int i = 1; i < many; i++) x.twice(0);
        due("the LETTERS so far", x.count(2), many);
        return x;
    }

    /** 100 in ACCOUNT 0 of SERVER 0, then ASK 1: a FAR of 30 to ACCOUNT 2 of SERVER t; its LETTER is the only one. */
    static OnceOnly withFar(int t) {
        OnceOnly x = withMoney(8, 0, 100);
        due("the FAR", x.ask(0, 0, FAR, 0, 2, t, 30), 1);
        return x;
    }

    /** ASKER 0 asks SERVER 0, with SERVER 1 as t; all LETTERS come, and the ANSWER is looked at: the number of the ASK. */
    static int asks(OnceOnly x, int kind, int a, int b, int amount, long answer) {
        int ask = x.ask(0, 0, kind, a, b, 1, amount);
        x.flow(200);
        due("kind " + kind + ", " + a + ", " + b + ", " + amount, x.answer(ask), answer);
        return ask;
    }

    /** Numbers outside of what is told: next to its bounds, and at the ends of int. */
    static int[] outside(int least, int most) {
        return new int[] {least - 1, most + 1, Integer.MIN_VALUE, Integer.MIN_VALUE + 1, Integer.MAX_VALUE - 1,
            Integer.MAX_VALUE};
    }

    static void due(OnceOnly x, int letter, int ask, int reply, int lowest, int bent, int over) {
        due("letter(" + letter + ", 0)", x.letter(letter, 0), ask);
        due("letter(" + letter + ", 1)", x.letter(letter, 1), reply);
        due("letter(" + letter + ", 2)", x.letter(letter, 2), lowest);
        due("letter(" + letter + ", 3)", x.letter(letter, 3), bent);
        due("letter(" + letter + ", 4)", x.letter(letter, 4), over);
    }

    static void kept(OnceOnly x, int server, int name, int life, int low, int records) {
        due("kept(" + server + ", " + name + ", 0)", x.kept(server, name, 0), life);
        due("kept(" + server + ", " + name + ", 1)", x.kept(server, name, 1), low);
        due("kept(" + server + ", " + name + ", 2)", x.kept(server, name, 2), records);
    }

    static void name(OnceOnly x, int name, int lowest, int life, int next) {
        due("name(" + name + ", 0)", x.name(name, 0), lowest);
        due("name(" + name + ", 1)", x.name(name, 1), life);
        due("name(" + name + ", 2)", x.name(name, 2), next);
    }
}
