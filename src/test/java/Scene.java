import java.util.ArrayList;
import java.util.List;
import java.util.function.Supplier;
import java.util.function.ToLongFunction;

/**
 * A state, and all that can be seen of it: to tell that a call which is refused changed nothing.
 * It is made anew for each hundred looks, as an object is good for 512 calls.
 */
final class Scene {
    private static final int LOOKS_EACH = 100;

    private final Supplier<OnceOnly> made;
    private final List<ToLongFunction<OnceOnly>> looks = new ArrayList<>();
    private final long[] ahead;

    Scene(Supplier<OnceOnly> made) {
        this.made = made;
        OnceOnly first = made.get();
        lookAtCounts();
        lookAtNames();
        lookAtServers();
        lookAtAsks(first.count(0));
        lookAtLetters(first.count(2));
        ahead = new long[looks.size()];
        for (int i = 0; i < ahead.length; i += LOOKS_EACH) {
            OnceOnly x = made.get();
            for (int j = i; j < end(i); j++) ahead[j] = looks.get(j).applyAsLong(x);
        }
    }

    OnceOnly make() {
        return made.get();
    }

    /** The call is answered as told, and nothing that can be seen is other than it was. */
    void unchanged(String call, ToLongFunction<OnceOnly> asked, long want) {
        int other = 0;
        for (int i = 0; i < ahead.length; i += LOOKS_EACH) {
            OnceOnly x = made.get();
            long got = asked.applyAsLong(x);
            if (i == 0 || got != want) Due.due(call, got, want);
            for (int j = i; j < end(i); j++) {
                if (looks.get(j).applyAsLong(x) != ahead[j]) other++;
            }
        }
        Due.due("what is other behind " + call, other, 0);
    }

    private int end(int i) {
        return Math.min(ahead.length, i + LOOKS_EACH);
    }

    private void lookAtCounts() {
        for (int what = 0; what < 8; what++) {
            int k = what;
            looks.add(x -> x.count(k));
        }
        for (int what = 0; what < 3; what++) {
            int k = what;
            looks.add(x -> x.audit(k));
        }
    }

    private void lookAtNames() {
        for (int i = 0; i < 30; i++) {
            int name = i / 3;
            int what = i % 3;
            looks.add(x -> x.name(name, what));
        }
    }

    private void lookAtServers() {
        for (int i = 0; i < 24; i++) {
            int server = i / 6;
            int a = i % 6;
            looks.add(x -> x.account(server, a));
        }
        for (int i = 0; i < 40; i++) {
            int server = i / 10;
            int name = i % 10;
            for (int what = 0; what < 3; what++) {
                int k = what;
                looks.add(x -> x.kept(server, name, k));
            }
            for (int number = 0; number < 20; number++) {
                int k = number;
                looks.add(x -> x.record(server, name, k));
            }
        }
    }

    private void lookAtAsks(int many) {
        for (int i = 0; i <= many; i++) {
            int ask = i;
            for (int what = 0; what < 8; what++) {
                int k = what;
                looks.add(x -> x.told(ask, k));
            }
            looks.add(x -> x.answer(ask));
            looks.add(x -> x.times(ask));
            looks.add(x -> x.witness(ask));
        }
    }

    private void lookAtLetters(int many) {
        for (int i = 0; i <= many; i++) {
            int letter = i;
            for (int what = 0; what < 5; what++) {
                int k = what;
                looks.add(x -> x.letter(letter, k));
            }
        }
    }
}
