import java.util.ArrayList;
import java.util.List;
import java.util.function.Function;
import java.util.function.Supplier;

/**
 * "A call that is refused (a negative number, or false) changes nothing.": two stores are brought into
 * the same state, one of them is called in a way that is refused, and then both must answer alike for
 * the rest of their lives. Calls that only look must change nothing either.
 */
public final class RefusalTest extends TestBase {
    private static final int N = 3;
    private static final int LATER_CALLS = 150;

    /** A call, and its answer as a number: -1 for false, 1 for true. */
    record Call(String name, Function<LeasedViewStore, Integer> answer) { }

    record State(String name, Supplier<LeasedViewStore> make) { }

    private static int truth(boolean b) {
        return b ? 1 : -1;
    }

    // ---- the states

    private static List<State> states() {
        List<State> states = new ArrayList<>();
        states.add(new State("new", () -> new LeasedViewStore(N)));
        states.add(new State("alone", RefusalTest::aloneWithWrites));
        states.add(new State("begun", RefusalTest::begunOnly));
        states.add(new State("paired", () -> paired(N)));
        states.add(new State("filling", () -> filling(N)));
        states.add(new State("running", () -> running(N)));
        states.add(new State("pending", () -> pending(N, 0, 1, 5)));
        states.add(new State("full post", RefusalTest::fullPost));
        states.add(new State("a crashed primary", RefusalTest::crashedPrimary));
        states.add(new State("all crashed", RefusalTest::allCrashed));
        return states;
    }

    private static LeasedViewStore aloneWithWrites() {
        LeasedViewStore x = alone(N);
        write(x, 0, 0, 0, 7);
        write(x, 1, 0, 3, 8);
        x.skew(0, 6);
        x.begin(2, false, 3, 0);
        x.send(2, 0);
        x.ping(1);
        return x;
    }

    /** Each client has an operation under way that it has sent to nobody yet. */
    private static LeasedViewStore begunOnly() {
        LeasedViewStore x = alone(N);
        x.begin(0, true, 0, 7);
        x.begin(1, true, 3, 8);
        x.begin(2, false, 3, 0);
        return x;
    }

    private static LeasedViewStore fullPost() {
        LeasedViewStore x = pending(N, 2, 1, 5);
        x.begin(0, true, 0, 4);
        x.send(0, 0);
        fillPost(x, 2, 31);
        x.ping(0);
        return x;
    }

    private static LeasedViewStore crashedPrimary() {
        LeasedViewStore x = pending(N, 0, 1, 5);
        x.ping(0);
        x.ping(1);
        x.crash(0);
        x.advance(130);
        return x;
    }

    private static LeasedViewStore allCrashed() {
        LeasedViewStore x = pending(N, 1, 1, 5);
        for (int s = 0; s < N; s++) {
            x.ping(s);
            x.crash(s);
        }
        return x;
    }

    // ---- the calls

    private static List<Call> refusedEverywhere() {
        List<Call> calls = new ArrayList<>();
        for (int d : new int[] {MIN, -1, 1001, MAX}) {
            calls.add(new Call("advance(" + d + ")", x -> x.advance(d)));
        }
        for (int o : new int[] {MIN, -11, 11, MAX}) {
            calls.add(new Call("skew(0, " + o + ")", x -> truth(x.skew(0, o))));
        }
        for (int s : noServer(N)) {
            calls.add(new Call("skew(" + s + ", 5)", x -> truth(x.skew(s, 5))));
            calls.add(new Call("ping(" + s + ")", x -> truth(x.ping(s))));
            calls.add(new Call("push(" + s + ")", x -> truth(x.push(s))));
            calls.add(new Call("crash(" + s + ")", x -> truth(x.crash(s))));
            calls.add(new Call("send(0, " + s + ")", x -> truth(x.send(0, s))));
            calls.add(new Call("role(" + s + ")", x -> x.role(s)));
            calls.add(new Call("count(" + s + ")", x -> x.count(s)));
        }
        for (int c : NO_CLIENT) {
            calls.add(new Call("begin(" + c + ", true, 0, 9)", x -> x.begin(c, true, 0, 9)));
            calls.add(new Call("send(" + c + ", 0)", x -> truth(x.send(c, 0))));
            calls.add(new Call("finished(" + c + ")", x -> x.finished(c)));
        }
        for (int k : NO_CELL) {
            calls.add(new Call("begin(1, true, " + k + ", 9)", x -> x.begin(1, true, k, 9)));
            calls.add(new Call("begin(1, false, " + k + ", 9)", x -> x.begin(1, false, k, 9)));
        }
        for (int i : new int[] {MIN, -1, 32, 33, MAX}) {
            calls.add(new Call("deliver(" + i + ")", x -> x.deliver(i)));
            calls.add(new Call("lose(" + i + ")", x -> truth(x.lose(i))));
            calls.add(new Call("letter(" + i + ")", x -> x.letter(i)));
        }
        calls.add(new Call("deliver(letters())", x -> x.deliver(x.letters())));
        calls.add(new Call("lose(letters())", x -> truth(x.lose(x.letters()))));
        calls.add(new Call("letter(letters())", x -> x.letter(x.letters())));
        return calls;
    }

    /** Calls that some states refuse and others do not. */
    private static List<Call> refusedSomewhere() {
        List<Call> calls = new ArrayList<>();
        for (int s = 0; s < N; s++) {
            int server = s;
            calls.add(new Call("ping(" + s + ")", x -> truth(x.ping(server))));
            calls.add(new Call("push(" + s + ")", x -> truth(x.push(server))));
            calls.add(new Call("crash(" + s + ")", x -> truth(x.crash(server))));
        }
        for (int c = 0; c < 3; c++) {
            int client = c;
            calls.add(new Call("begin(" + c + ", true, 2, 9)", x -> x.begin(client, true, 2, 9)));
            calls.add(new Call("begin(" + c + ", false, 2, 9)", x -> x.begin(client, false, 2, 9)));
            calls.add(new Call("send(" + c + ", 0)", x -> truth(x.send(client, 0))));
        }
        return calls;
    }

    private static List<Call> looks() {
        List<Call> calls = new ArrayList<>();
        calls.add(new Call("letters()", LeasedViewStore::letters));
        calls.add(new Call("letter(0)", x -> x.letter(0)));
        calls.add(new Call("advance(0)", x -> x.advance(0)));
        for (int s = -1; s <= N; s++) {
            int server = s;
            calls.add(new Call("view(" + s + ")", x -> x.view(server)));
            calls.add(new Call("role(" + s + ")", x -> x.role(server)));
            calls.add(new Call("count(" + s + ")", x -> x.count(server)));
            for (int k = 0; k <= 4; k++) {
                int cell = k;
                calls.add(new Call("cell(" + s + ", " + k + ")", x -> x.cell(server, cell)));
            }
        }
        for (int c = -1; c <= 3; c++) {
            int client = c;
            calls.add(new Call("finished(" + c + ")", x -> x.finished(client)));
            calls.add(new Call("result(" + c + ")", x -> x.result(client)));
        }
        return calls;
    }

    // ---- two lives

    private static long seed;

    private static int pick(int bound) {
        seed = seed * 6364136223846793005L + 1442695040888963407L;
        return (int) ((seed >>> 33) % bound);
    }

    private static Call laterCall() {
        int s = pick(N);
        int c = pick(3);
        int k = pick(4);
        int i = pick(3) == 0 ? pick(6) : 0;
        switch (pick(12)) {
            case 0:
                return new Call("ping(" + s + ")", x -> truth(x.ping(s)));
            case 1:
                return new Call("begin(" + c + ", true, " + k + ", 77)", x -> x.begin(c, true, k, 77));
            case 2:
                return new Call("begin(" + c + ", false, " + k + ", 77)", x -> x.begin(c, false, k, 77));
            case 3:
                return new Call("send(" + c + ", 0)", x -> truth(x.send(c, 0)));
            case 4:
                return new Call("send(" + c + ", 1)", x -> truth(x.send(c, 1)));
            case 5:
                return new Call("check()", LeasedViewStore::check);
            case 6:
                int d = 10 + 20 * pick(5);
                return new Call("advance(" + d + ")", x -> x.advance(d));
            case 7:
                return new Call("push(" + s + ")", x -> truth(x.push(s)));
            default:
                return new Call("deliver(" + i + ")", x -> x.deliver(i));
        }
    }

    private static void alike(String when, LeasedViewStore x, LeasedViewStore y, Call call) {
        due(call.name() + " " + when, call.answer().apply(x), call.answer().apply(y));
    }

    private static void looksAlike(String when, LeasedViewStore x, LeasedViewStore y) {
        for (Call look : looks()) {
            alike(when, x, y, look);
        }
        for (int i = 0; i < 32; i++) {
            due("letter(" + i + ") " + when, x.letter(i), y.letter(i));
        }
    }

    private static void livesAlike(String when, LeasedViewStore x, LeasedViewStore y) {
        looksAlike(when, x, y);
        for (int s = 0; s < N; s++) {
            int server = s;
            alike(when, x, y, new Call("readAt(" + s + ")", z -> readAt(z, server)));
        }
        bringThroughAlike(when, x, y);
        for (int i = 0; i < LATER_CALLS; i++) {
            alike(when, x, y, laterCall());
        }
        looksAlike("at the end, " + when, x, y);
    }

    /** The operations that are under way are asked for, and show what they were begun with. */
    private static void bringThroughAlike(String when, LeasedViewStore x, LeasedViewStore y) {
        for (int c = 0; c < 3; c++) {
            int client = c;
            alike(when, x, y, new Call("send(" + c + ", 0)", z -> truth(z.send(client, 0))));
        }
        for (int i = 0; i < 6; i++) {
            alike(when, x, y, new Call("deliver(0)", z -> z.deliver(0)));
        }
        for (int k = 0; k < 4; k++) {
            due("cell(0, " + k + ") " + when, x.cell(0, k), y.cell(0, k));
        }
    }

    /** Answers whether the state refused the call. */
    private static boolean changesNothing(State state, Call call) {
        LeasedViewStore x = state.make().get();
        if (call.answer().apply(x) >= 0) {
            return false;
        }
        seed = 31L * call.name().hashCode() + state.name().hashCode();
        livesAlike("after " + call.name() + " when " + state.name(), x, state.make().get());
        return true;
    }

    private static void refusals() {
        for (State state : states()) {
            for (Call call : refusedEverywhere()) {
                due(call.name() + " is refused when " + state.name(), changesNothing(state, call), true);
            }
        }
        for (Call call : refusedSomewhere()) {
            boolean refused = false;
            for (State state : states()) {
                refused |= changesNothing(state, call);
            }
            due(call.name() + " is refused in some state", refused, true);
        }
    }

    private static void looksChangeNothing() {
        for (State state : states()) {
            for (Call look : looks()) {
                LeasedViewStore x = state.make().get();
                look.answer().apply(x);
                seed = 31L * look.name().hashCode() + state.name().hashCode();
                livesAlike("after " + look.name() + " when " + state.name(), x, state.make().get());
            }
        }
    }

    public static void main(String[] args) {
        sentence("Terms:", "A call that is refused (a negative number, or false) changes nothing.",
                RefusalTest::refusals);
        about("calls that only look");
        looksChangeNothing();
        end();
    }
}
